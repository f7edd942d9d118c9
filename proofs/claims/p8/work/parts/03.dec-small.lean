theorem dX0_with_0 : decode cX0_with 0 = .ok (.iload_n 0, 1) := by decide +kernel
theorem dX0_with_1 : decode cX0_with 1 = .ok (.iload_n 2, 1) := by decide +kernel
theorem dX0_with_2 : decode cX0_with 2 = .ok (.iconst 3, 1) := by decide +kernel
theorem dX0_with_3 : decode cX0_with 3 = .ok (.iload_n 1, 1) := by decide +kernel
theorem dX0_with_4 : decode cX0_with 4 = .ok (.imul, 1) := by decide +kernel
theorem dX0_with_5 : decode cX0_with 5 = .ok (.ishl, 1) := by decide +kernel
theorem dX0_with_6 : decode cX0_with 6 = .ok (.ior, 1) := by decide +kernel
theorem dX0_with_7 : decode cX0_with 7 = .ok (.ireturn, 1) := by decide +kernel
theorem dX0_markAt_0 : decode cX0_markAt 0 = .ok (.iload_n 0, 1) := by decide +kernel
theorem dX0_markAt_1 : decode cX0_markAt 1 = .ok (.iconst 3, 1) := by decide +kernel
theorem dX0_markAt_2 : decode cX0_markAt 2 = .ok (.iload_n 1, 1) := by decide +kernel
theorem dX0_markAt_3 : decode cX0_markAt 3 = .ok (.imul, 1) := by decide +kernel
theorem dX0_markAt_4 : decode cX0_markAt 4 = .ok (.ishr, 1) := by decide +kernel
theorem dX0_markAt_5 : decode cX0_markAt 5 = .ok (.bipush 7, 2) := by decide +kernel
theorem dX0_markAt_7 : decode cX0_markAt 7 = .ok (.iand, 1) := by decide +kernel
theorem dX0_markAt_8 : decode cX0_markAt 8 = .ok (.ireturn, 1) := by decide +kernel
set_option maxRecDepth 20000 in
theorem ggX0_onlyMap_X1_signAt : GoodIn wsX0_onlyMap wsX1_signAt := goodIn_r _ [4, 5, 6, 3, 7, 8, 9, 10, 11] (by decide +kernel) (by decide +kernel)
set_option maxRecDepth 20000 in
theorem gX0_onlyMap_X1_signAt : GoodIn wsX0_onlyMap (va_wsS RX0 7 yX1_signAt wsX1_signAt) := goodIn_app (goodIn_of _ (by decide +kernel)) ggX0_onlyMap_X1_signAt
set_option maxRecDepth 20000 in
theorem ggX0_onlyMap_X0_with : GoodIn wsX0_onlyMap wsX0_with := goodIn_r _ [15] (by decide +kernel) (by decide +kernel)
set_option maxRecDepth 20000 in
theorem gX0_onlyMap_X0_with : GoodIn wsX0_onlyMap (va_wsS RX0 13 yX0_with wsX0_with) := goodIn_app (goodIn_of _ (by decide +kernel)) ggX0_onlyMap_X0_with
theorem dX0_onlyMap_0 : decode cX0_onlyMap 0 = .ok (.iconst 0, 1) := by decide +kernel
theorem dX0_onlyMap_1 : decode cX0_onlyMap 1 = .ok (.istore_n 2, 1) := by decide +kernel
theorem dX0_onlyMap_2 : decode cX0_onlyMap 2 = .ok (.iconst 0, 1) := by decide +kernel
theorem dX0_onlyMap_3 : decode cX0_onlyMap 3 = .ok (.istore_n 3, 1) := by decide +kernel
theorem dX0_onlyMap_4 : decode cX0_onlyMap 4 = .ok (.iload_n 3, 1) := by decide +kernel
theorem dX0_onlyMap_5 : decode cX0_onlyMap 5 = .ok (.iload_n 1, 1) := by decide +kernel
theorem dX0_onlyMap_6 : decode cX0_onlyMap 6 = .ok (.if_icmp .ge 20, 3) := by decide +kernel
theorem dX0_onlyMap_9 : decode cX0_onlyMap 9 = .ok (.iload_n 2, 1) := by decide +kernel
theorem dX0_onlyMap_10 : decode cX0_onlyMap 10 = .ok (.iload_n 3, 1) := by decide +kernel
theorem dX0_onlyMap_11 : decode cX0_onlyMap 11 = .ok (.iload_n 0, 1) := by decide +kernel
theorem dX0_onlyMap_12 : decode cX0_onlyMap 12 = .ok (.iload_n 3, 1) := by decide +kernel
theorem dX0_onlyMap_13 : decode cX0_onlyMap 13 = .ok (.invokestatic 7, 3) := by decide +kernel
theorem dX0_onlyMap_16 : decode cX0_onlyMap 16 = .ok (.invokestatic 13, 3) := by decide +kernel
theorem dX0_onlyMap_19 : decode cX0_onlyMap 19 = .ok (.istore_n 2, 1) := by decide +kernel
theorem dX0_onlyMap_20 : decode cX0_onlyMap 20 = .ok (.iinc 3 1, 3) := by decide +kernel
theorem dX0_onlyMap_23 : decode cX0_onlyMap 23 = .ok (.goto (-19), 3) := by decide +kernel
theorem dX0_onlyMap_26 : decode cX0_onlyMap 26 = .ok (.iload_n 2, 1) := by decide +kernel
theorem dX0_onlyMap_27 : decode cX0_onlyMap 27 = .ok (.ireturn, 1) := by decide +kernel
theorem dX1_weight_0 : decode cX1_weight 0 = .ok (.iload_n 0, 1) := by decide +kernel
theorem dX1_weight_1 : decode cX1_weight 1 = .ok (.ifCond .lt 19, 3) := by decide +kernel
theorem dX1_weight_4 : decode cX1_weight 4 = .ok (.iload_n 0, 1) := by decide +kernel
theorem dX1_weight_5 : decode cX1_weight 5 = .ok (.getstatic 9, 3) := by decide +kernel
theorem dX1_weight_8 : decode cX1_weight 8 = .ok (.arraylength, 1) := by decide +kernel
theorem dX1_weight_9 : decode cX1_weight 9 = .ok (.if_icmp .ge 11, 3) := by decide +kernel
theorem dX1_weight_12 : decode cX1_weight 12 = .ok (.getstatic 9, 3) := by decide +kernel
theorem dX1_weight_15 : decode cX1_weight 15 = .ok (.iload_n 0, 1) := by decide +kernel
theorem dX1_weight_16 : decode cX1_weight 16 = .ok (.iaload, 1) := by decide +kernel
theorem dX1_weight_17 : decode cX1_weight 17 = .ok (.goto 4, 3) := by decide +kernel
theorem dX1_weight_20 : decode cX1_weight 20 = .ok (.iconst 1, 1) := by decide +kernel
theorem dX1_weight_21 : decode cX1_weight 21 = .ok (.ireturn, 1) := by decide +kernel
set_option maxRecDepth 20000 in
theorem ggX1_countOf_X1_weight : GoodIn wsX1_countOf wsX1_weight := goodIn_r _ [4, 5] (by decide +kernel) (by decide +kernel)
set_option maxRecDepth 20000 in
theorem gX1_countOf_X1_weight : GoodIn wsX1_countOf (va_wsS RX1 15 yX1_weight wsX1_weight) := goodIn_app (goodIn_of _ (by decide +kernel)) ggX1_countOf_X1_weight
theorem dX1_countOf_0 : decode cX1_countOf 0 = .ok (.iload_n 0, 1) := by decide +kernel
theorem dX1_countOf_1 : decode cX1_countOf 1 = .ok (.iconst 1, 1) := by decide +kernel
theorem dX1_countOf_2 : decode cX1_countOf 2 = .ok (.isub, 1) := by decide +kernel
theorem dX1_countOf_3 : decode cX1_countOf 3 = .ok (.invokestatic 15, 3) := by decide +kernel
theorem dX1_countOf_6 : decode cX1_countOf 6 = .ok (.istore_n 1, 1) := by decide +kernel
theorem dX1_countOf_7 : decode cX1_countOf 7 = .ok (.iload_n 1, 1) := by decide +kernel
theorem dX1_countOf_8 : decode cX1_countOf 8 = .ok (.iconst 1, 1) := by decide +kernel
theorem dX1_countOf_9 : decode cX1_countOf 9 = .ok (.if_icmp .ge 7, 3) := by decide +kernel
theorem dX1_countOf_12 : decode cX1_countOf 12 = .ok (.iconst 0, 1) := by decide +kernel
theorem dX1_countOf_13 : decode cX1_countOf 13 = .ok (.goto 8, 3) := by decide +kernel
theorem dX1_countOf_16 : decode cX1_countOf 16 = .ok (.sipush 15625, 3) := by decide +kernel
theorem dX1_countOf_19 : decode cX1_countOf 19 = .ok (.iload_n 1, 1) := by decide +kernel
theorem dX1_countOf_20 : decode cX1_countOf 20 = .ok (.idiv, 1) := by decide +kernel
theorem dX1_countOf_21 : decode cX1_countOf 21 = .ok (.ireturn, 1) := by decide +kernel
set_option maxRecDepth 20000 in
theorem ggX1_signAt_X1_weight : GoodIn wsX1_signAt wsX1_weight := goodIn_r _ [4, 5] (by decide +kernel) (by decide +kernel)
set_option maxRecDepth 20000 in
theorem gX1_signAt_X1_weight : GoodIn wsX1_signAt (va_wsS RX1 15 yX1_weight wsX1_weight) := goodIn_app (goodIn_of _ (by decide +kernel)) ggX1_signAt_X1_weight
set_option maxRecDepth 20000 in
theorem ggX1_signAt_X1_signBy : GoodIn wsX1_signAt wsX1_signBy := goodIn_r _ [8] (by decide +kernel) (by decide +kernel)
set_option maxRecDepth 20000 in
theorem gX1_signAt_X1_signBy : GoodIn wsX1_signAt (va_wsS RX1 19 yX1_signBy wsX1_signBy) := goodIn_app (goodIn_of _ (by decide +kernel)) ggX1_signAt_X1_signBy
theorem dX1_signAt_0 : decode cX1_signAt 0 = .ok (.iload_n 0, 1) := by decide +kernel
theorem dX1_signAt_1 : decode cX1_signAt 1 = .ok (.iload_n 1, 1) := by decide +kernel
theorem dX1_signAt_2 : decode cX1_signAt 2 = .ok (.invokestatic 15, 3) := by decide +kernel
theorem dX1_signAt_5 : decode cX1_signAt 5 = .ok (.invokestatic 19, 3) := by decide +kernel
theorem dX1_signAt_8 : decode cX1_signAt 8 = .ok (.ireturn, 1) := by decide +kernel
theorem dX1_signBy_0 : decode cX1_signBy 0 = .ok (.iload_n 1, 1) := by decide +kernel
theorem dX1_signBy_1 : decode cX1_signBy 1 = .ok (.iconst 1, 1) := by decide +kernel
theorem dX1_signBy_2 : decode cX1_signBy 2 = .ok (.if_icmp .ge 7, 3) := by decide +kernel
theorem dX1_signBy_5 : decode cX1_signBy 5 = .ok (.iconst 0, 1) := by decide +kernel
theorem dX1_signBy_6 : decode cX1_signBy 6 = .ok (.goto 8, 3) := by decide +kernel
theorem dX1_signBy_9 : decode cX1_signBy 9 = .ok (.iload_n 0, 1) := by decide +kernel
theorem dX1_signBy_10 : decode cX1_signBy 10 = .ok (.iload_n 1, 1) := by decide +kernel
theorem dX1_signBy_11 : decode cX1_signBy 11 = .ok (.idiv, 1) := by decide +kernel
theorem dX1_signBy_12 : decode cX1_signBy 12 = .ok (.iconst 5, 1) := by decide +kernel
theorem dX1_signBy_13 : decode cX1_signBy 13 = .ok (.irem, 1) := by decide +kernel
theorem dX1_signBy_14 : decode cX1_signBy 14 = .ok (.ireturn, 1) := by decide +kernel
set_option maxRecDepth 20000 in
theorem ggX1_with_X1_signAt : GoodIn wsX1_with wsX1_signAt := goodIn_r _ [4, 5, 6, 3, 7, 8, 9, 10, 11] (by decide +kernel) (by decide +kernel)
set_option maxRecDepth 20000 in
theorem gX1_with_X1_signAt : GoodIn wsX1_with (va_wsS RX1 23 yX1_signAt wsX1_signAt) := goodIn_app (goodIn_of _ (by decide +kernel)) ggX1_with_X1_signAt
set_option maxRecDepth 20000 in
theorem ggX1_with_X1_weight : GoodIn wsX1_with wsX1_weight := goodIn_r _ [7, 8] (by decide +kernel) (by decide +kernel)
set_option maxRecDepth 20000 in
theorem gX1_with_X1_weight : GoodIn wsX1_with (va_wsS RX1 15 yX1_weight wsX1_weight) := goodIn_app (goodIn_of _ (by decide +kernel)) ggX1_with_X1_weight
theorem dX1_with_0 : decode cX1_with 0 = .ok (.iload_n 0, 1) := by decide +kernel
theorem dX1_with_1 : decode cX1_with 1 = .ok (.iload_n 2, 1) := by decide +kernel
theorem dX1_with_2 : decode cX1_with 2 = .ok (.iload_n 0, 1) := by decide +kernel
theorem dX1_with_3 : decode cX1_with 3 = .ok (.iload_n 1, 1) := by decide +kernel
theorem dX1_with_4 : decode cX1_with 4 = .ok (.invokestatic 23, 3) := by decide +kernel
theorem dX1_with_7 : decode cX1_with 7 = .ok (.isub, 1) := by decide +kernel
theorem dX1_with_8 : decode cX1_with 8 = .ok (.iload_n 1, 1) := by decide +kernel
theorem dX1_with_9 : decode cX1_with 9 = .ok (.invokestatic 15, 3) := by decide +kernel
theorem dX1_with_12 : decode cX1_with 12 = .ok (.imul, 1) := by decide +kernel
theorem dX1_with_13 : decode cX1_with 13 = .ok (.iadd, 1) := by decide +kernel
theorem dX1_with_14 : decode cX1_with 14 = .ok (.ireturn, 1) := by decide +kernel
set_option maxRecDepth 20000 in
theorem ggX1_unlike_X1_signAt : GoodIn wsX1_unlike wsX1_signAt := goodIn_r _ [4, 5, 6, 3, 7, 8, 9, 10, 11] (by decide +kernel) (by decide +kernel)
set_option maxRecDepth 20000 in
theorem gX1_unlike_X1_signAt : GoodIn wsX1_unlike (va_wsS RX1 23 yX1_signAt wsX1_signAt) := goodIn_app (goodIn_of _ (by decide +kernel)) ggX1_unlike_X1_signAt
theorem dX1_unlike_0 : decode cX1_unlike 0 = .ok (.iconst 0, 1) := by decide +kernel
theorem dX1_unlike_1 : decode cX1_unlike 1 = .ok (.istore_n 2, 1) := by decide +kernel
theorem dX1_unlike_2 : decode cX1_unlike 2 = .ok (.iconst 0, 1) := by decide +kernel
theorem dX1_unlike_3 : decode cX1_unlike 3 = .ok (.istore_n 3, 1) := by decide +kernel
theorem dX1_unlike_4 : decode cX1_unlike 4 = .ok (.iload_n 3, 1) := by decide +kernel
theorem dX1_unlike_5 : decode cX1_unlike 5 = .ok (.bipush 6, 2) := by decide +kernel
theorem dX1_unlike_7 : decode cX1_unlike 7 = .ok (.if_icmp .ge 25, 3) := by decide +kernel
theorem dX1_unlike_10 : decode cX1_unlike 10 = .ok (.iload_n 0, 1) := by decide +kernel
theorem dX1_unlike_11 : decode cX1_unlike 11 = .ok (.iload_n 3, 1) := by decide +kernel
theorem dX1_unlike_12 : decode cX1_unlike 12 = .ok (.invokestatic 23, 3) := by decide +kernel
theorem dX1_unlike_15 : decode cX1_unlike 15 = .ok (.iload_n 1, 1) := by decide +kernel
theorem dX1_unlike_16 : decode cX1_unlike 16 = .ok (.iload_n 3, 1) := by decide +kernel
theorem dX1_unlike_17 : decode cX1_unlike 17 = .ok (.invokestatic 23, 3) := by decide +kernel
theorem dX1_unlike_20 : decode cX1_unlike 20 = .ok (.if_icmp .eq 6, 3) := by decide +kernel
theorem dX1_unlike_23 : decode cX1_unlike 23 = .ok (.iinc 2 1, 3) := by decide +kernel
theorem dX1_unlike_26 : decode cX1_unlike 26 = .ok (.iinc 3 1, 3) := by decide +kernel
theorem dX1_unlike_29 : decode cX1_unlike 29 = .ok (.goto (-25), 3) := by decide +kernel
theorem dX1_unlike_32 : decode cX1_unlike 32 = .ok (.iload_n 2, 1) := by decide +kernel
theorem dX1_unlike_33 : decode cX1_unlike 33 = .ok (.ireturn, 1) := by decide +kernel
theorem dX2_init_0 : decode cX2_init 0 = .ok (.aload_n 0, 1) := by decide +kernel
theorem dX2_init_1 : decode cX2_init 1 = .ok (.invokespecial 3, 3) := by decide +kernel
theorem dX2_init_4 : decode cX2_init 4 = .ok (.aload_n 0, 1) := by decide +kernel
theorem dX2_init_5 : decode cX2_init 5 = .ok (.bipush 40, 2) := by decide +kernel
theorem dX2_init_7 : decode cX2_init 7 = .ok (.newarray .int, 2) := by decide +kernel
theorem dX2_init_9 : decode cX2_init 9 = .ok (.putfield 9, 3) := by decide +kernel
theorem dX2_init_12 : decode cX2_init 12 = .ok (.aload_n 0, 1) := by decide +kernel
theorem dX2_init_13 : decode cX2_init 13 = .ok (.bipush 10, 2) := by decide +kernel
theorem dX2_init_15 : decode cX2_init 15 = .ok (.newarray .int, 2) := by decide +kernel
theorem dX2_init_17 : decode cX2_init 17 = .ok (.putfield 15, 3) := by decide +kernel
theorem dX2_init_20 : decode cX2_init 20 = .ok (.return_, 1) := by decide +kernel
theorem dX2_put_0 : decode cX2_put 0 = .ok (.aload_n 0, 1) := by decide +kernel
theorem dX2_put_1 : decode cX2_put 1 = .ok (.getfield 18, 3) := by decide +kernel
theorem dX2_put_4 : decode cX2_put 4 = .ok (.ifCond .lt 15, 3) := by decide +kernel
theorem dX2_put_7 : decode cX2_put 7 = .ok (.aload_n 0, 1) := by decide +kernel
theorem dX2_put_8 : decode cX2_put 8 = .ok (.getfield 18, 3) := by decide +kernel
theorem dX2_put_11 : decode cX2_put 11 = .ok (.aload_n 0, 1) := by decide +kernel
theorem dX2_put_12 : decode cX2_put 12 = .ok (.getfield 9, 3) := by decide +kernel
theorem dX2_put_15 : decode cX2_put 15 = .ok (.arraylength, 1) := by decide +kernel
theorem dX2_put_16 : decode cX2_put 16 = .ok (.if_icmp .lt 5, 3) := by decide +kernel
theorem dX2_put_19 : decode cX2_put 19 = .ok (.iconst 0, 1) := by decide +kernel
theorem dX2_put_20 : decode cX2_put 20 = .ok (.ireturn, 1) := by decide +kernel
theorem dX2_put_21 : decode cX2_put 21 = .ok (.aload_n 0, 1) := by decide +kernel
theorem dX2_put_22 : decode cX2_put 22 = .ok (.getfield 9, 3) := by decide +kernel
theorem dX2_put_25 : decode cX2_put 25 = .ok (.aload_n 0, 1) := by decide +kernel
theorem dX2_put_26 : decode cX2_put 26 = .ok (.getfield 18, 3) := by decide +kernel
theorem dX2_put_29 : decode cX2_put 29 = .ok (.iload_n 1, 1) := by decide +kernel
theorem dX2_put_30 : decode cX2_put 30 = .ok (.iastore, 1) := by decide +kernel
theorem dX2_put_31 : decode cX2_put 31 = .ok (.aload_n 0, 1) := by decide +kernel
theorem dX2_put_32 : decode cX2_put 32 = .ok (.dup, 1) := by decide +kernel
theorem dX2_put_33 : decode cX2_put 33 = .ok (.getfield 18, 3) := by decide +kernel
theorem dX2_put_36 : decode cX2_put 36 = .ok (.iconst 1, 1) := by decide +kernel
theorem dX2_put_37 : decode cX2_put 37 = .ok (.iadd, 1) := by decide +kernel
theorem dX2_put_38 : decode cX2_put 38 = .ok (.putfield 18, 3) := by decide +kernel
theorem dX2_put_41 : decode cX2_put 41 = .ok (.iconst 1, 1) := by decide +kernel
theorem dX2_put_42 : decode cX2_put 42 = .ok (.ireturn, 1) := by decide +kernel
theorem dX2_signAt_0 : decode cX2_signAt 0 = .ok (.iload_n 1, 1) := by decide +kernel
theorem dX2_signAt_1 : decode cX2_signAt 1 = .ok (.ifCond .lt 29, 3) := by decide +kernel
theorem dX2_signAt_4 : decode cX2_signAt 4 = .ok (.iload_n 1, 1) := by decide +kernel
theorem dX2_signAt_5 : decode cX2_signAt 5 = .ok (.aload_n 0, 1) := by decide +kernel
theorem dX2_signAt_6 : decode cX2_signAt 6 = .ok (.getfield 18, 3) := by decide +kernel
theorem dX2_signAt_9 : decode cX2_signAt 9 = .ok (.if_icmp .ge 21, 3) := by decide +kernel
theorem dX2_signAt_12 : decode cX2_signAt 12 = .ok (.iload_n 1, 1) := by decide +kernel
theorem dX2_signAt_13 : decode cX2_signAt 13 = .ok (.aload_n 0, 1) := by decide +kernel
theorem dX2_signAt_14 : decode cX2_signAt 14 = .ok (.getfield 9, 3) := by decide +kernel
theorem dX2_signAt_17 : decode cX2_signAt 17 = .ok (.arraylength, 1) := by decide +kernel
theorem dX2_signAt_18 : decode cX2_signAt 18 = .ok (.if_icmp .ge 12, 3) := by decide +kernel
theorem dX2_signAt_21 : decode cX2_signAt 21 = .ok (.aload_n 0, 1) := by decide +kernel
theorem dX2_signAt_22 : decode cX2_signAt 22 = .ok (.getfield 9, 3) := by decide +kernel
theorem dX2_signAt_25 : decode cX2_signAt 25 = .ok (.iload_n 1, 1) := by decide +kernel
theorem dX2_signAt_26 : decode cX2_signAt 26 = .ok (.iaload, 1) := by decide +kernel
theorem dX2_signAt_27 : decode cX2_signAt 27 = .ok (.goto 4, 3) := by decide +kernel
theorem dX2_signAt_30 : decode cX2_signAt 30 = .ok (.iconst 0, 1) := by decide +kernel
theorem dX2_signAt_31 : decode cX2_signAt 31 = .ok (.ireturn, 1) := by decide +kernel
set_option maxRecDepth 20000 in
theorem ggX2_markAt_X2_signAt : GoodIn wsX2_markAt wsX2_signAt := goodIn_r _ [5, 6, 7, 13, 14, 15] (by decide +kernel) (by decide +kernel)
set_option maxRecDepth 20000 in
theorem gX2_markAt_X2_signAt : GoodIn wsX2_markAt (wsV RX2 22 RX2 yX2_signAt wsX2_signAt) := goodIn_app (goodIn_of _ (by decide +kernel)) ggX2_markAt_X2_signAt
set_option maxRecDepth 20000 in
theorem ggX2_markAt_X5_number : GoodIn wsX2_markAt wsX5_number := goodIn_r _ [11, 12] (by decide +kernel) (by decide +kernel)
set_option maxRecDepth 20000 in
theorem gX2_markAt_X5_number : GoodIn wsX2_markAt (va_wsS RX2 26 yX5_number wsX5_number) := goodIn_app (goodIn_of _ (by decide +kernel)) ggX2_markAt_X5_number
theorem dX2_markAt_0 : decode cX2_markAt 0 = .ok (.aload_n 0, 1) := by decide +kernel
theorem dX2_markAt_1 : decode cX2_markAt 1 = .ok (.iload_n 1, 1) := by decide +kernel
theorem dX2_markAt_2 : decode cX2_markAt 2 = .ok (.invokevirtual 22, 3) := by decide +kernel
theorem dX2_markAt_5 : decode cX2_markAt 5 = .ok (.invokestatic 26, 3) := by decide +kernel
theorem dX2_markAt_8 : decode cX2_markAt 8 = .ok (.ireturn, 1) := by decide +kernel
set_option maxRecDepth 20000 in
theorem ggX2_firstWrong_X2_firstWrongOfSlips : GoodIn wsX2_firstWrong wsX2_firstWrongOfSlips := goodIn_r _ [6, 1, 7, 8, 9, 5, 10, 11, 12, 13, 14, 15, 16, 17, 18, 19, 20, 21, 22, 23, 24, 25, 26, 27, 28, 29, 30, 31, 32, 33, 34, 35, 36, 37, 38, 39] (by decide +kernel) (by decide +kernel)
set_option maxRecDepth 20000 in
theorem gX2_firstWrong_X2_firstWrongOfSlips : GoodIn wsX2_firstWrong (wsV RX2 31 RX2 yX2_firstWrongOfSlips wsX2_firstWrongOfSlips) := goodIn_app (goodIn_of _ (by decide +kernel)) ggX2_firstWrong_X2_firstWrongOfSlips
set_option maxRecDepth 20000 in
theorem ggX2_firstWrong_X2_markAt : GoodIn wsX2_firstWrong wsX2_markAt := goodIn_r _ [27, 15, 16, 17, 5, 18, 1, 19, 28, 29, 30, 31, 32, 37, 38, 39] (by decide +kernel) (by decide +kernel)
set_option maxRecDepth 20000 in
theorem gX2_firstWrong_X2_markAt : GoodIn wsX2_firstWrong (wsV RX2 34 RX2 yX2_markAt wsX2_markAt) := goodIn_app (goodIn_of _ (by decide +kernel)) ggX2_firstWrong_X2_markAt
theorem dX2_firstWrong_0 : decode cX2_firstWrong 0 = .ok (.iload_n 1, 1) := by decide +kernel
theorem dX2_firstWrong_1 : decode cX2_firstWrong 1 = .ok (.iconst 1, 1) := by decide +kernel
theorem dX2_firstWrong_2 : decode cX2_firstWrong 2 = .ok (.if_icmp .ne 9, 3) := by decide +kernel
theorem dX2_firstWrong_5 : decode cX2_firstWrong 5 = .ok (.aload_n 0, 1) := by decide +kernel
theorem dX2_firstWrong_6 : decode cX2_firstWrong 6 = .ok (.iload_n 2, 1) := by decide +kernel
theorem dX2_firstWrong_7 : decode cX2_firstWrong 7 = .ok (.invokevirtual 31, 3) := by decide +kernel
theorem dX2_firstWrong_10 : decode cX2_firstWrong 10 = .ok (.ireturn, 1) := by decide +kernel
theorem dX2_firstWrong_11 : decode cX2_firstWrong 11 = .ok (.iload_n 1, 1) := by decide +kernel
theorem dX2_firstWrong_12 : decode cX2_firstWrong 12 = .ok (.iconst 2, 1) := by decide +kernel
theorem dX2_firstWrong_13 : decode cX2_firstWrong 13 = .ok (.if_icmp .ne 7, 3) := by decide +kernel
theorem dX2_firstWrong_16 : decode cX2_firstWrong 16 = .ok (.iconst 5, 1) := by decide +kernel
theorem dX2_firstWrong_17 : decode cX2_firstWrong 17 = .ok (.goto 4, 3) := by decide +kernel
theorem dX2_firstWrong_20 : decode cX2_firstWrong 20 = .ok (.iconst 4, 1) := by decide +kernel
theorem dX2_firstWrong_21 : decode cX2_firstWrong 21 = .ok (.istore_n 3, 1) := by decide +kernel
theorem dX2_firstWrong_22 : decode cX2_firstWrong 22 = .ok (.iconst 0, 1) := by decide +kernel
theorem dX2_firstWrong_23 : decode cX2_firstWrong 23 = .ok (.istore 4, 2) := by decide +kernel
theorem dX2_firstWrong_25 : decode cX2_firstWrong 25 = .ok (.iload 4, 2) := by decide +kernel
theorem dX2_firstWrong_27 : decode cX2_firstWrong 27 = .ok (.aload_n 0, 1) := by decide +kernel
theorem dX2_firstWrong_28 : decode cX2_firstWrong 28 = .ok (.getfield 18, 3) := by decide +kernel
theorem dX2_firstWrong_31 : decode cX2_firstWrong 31 = .ok (.if_icmp .ge 37, 3) := by decide +kernel
theorem dX2_firstWrong_34 : decode cX2_firstWrong 34 = .ok (.aload_n 0, 1) := by decide +kernel
theorem dX2_firstWrong_35 : decode cX2_firstWrong 35 = .ok (.iload 4, 2) := by decide +kernel
theorem dX2_firstWrong_37 : decode cX2_firstWrong 37 = .ok (.invokevirtual 34, 3) := by decide +kernel
theorem dX2_firstWrong_40 : decode cX2_firstWrong 40 = .ok (.istore 5, 2) := by decide +kernel
theorem dX2_firstWrong_42 : decode cX2_firstWrong 42 = .ok (.iload 4, 2) := by decide +kernel
theorem dX2_firstWrong_44 : decode cX2_firstWrong 44 = .ok (.iload_n 2, 1) := by decide +kernel
theorem dX2_firstWrong_45 : decode cX2_firstWrong 45 = .ok (.if_icmp .ge 14, 3) := by decide +kernel
theorem dX2_firstWrong_48 : decode cX2_firstWrong 48 = .ok (.iload 5, 2) := by decide +kernel
theorem dX2_firstWrong_50 : decode cX2_firstWrong 50 = .ok (.ifCond .lt 9, 3) := by decide +kernel
theorem dX2_firstWrong_53 : decode cX2_firstWrong 53 = .ok (.iload 5, 2) := by decide +kernel
theorem dX2_firstWrong_55 : decode cX2_firstWrong 55 = .ok (.iload_n 3, 1) := by decide +kernel
theorem dX2_firstWrong_56 : decode cX2_firstWrong 56 = .ok (.if_icmp .le 6, 3) := by decide +kernel
theorem dX2_firstWrong_59 : decode cX2_firstWrong 59 = .ok (.iload 4, 2) := by decide +kernel
theorem dX2_firstWrong_61 : decode cX2_firstWrong 61 = .ok (.ireturn, 1) := by decide +kernel
theorem dX2_firstWrong_62 : decode cX2_firstWrong 62 = .ok (.iinc 4 1, 3) := by decide +kernel
theorem dX2_firstWrong_65 : decode cX2_firstWrong 65 = .ok (.goto (-40), 3) := by decide +kernel
theorem dX2_firstWrong_68 : decode cX2_firstWrong 68 = .ok (.aload_n 0, 1) := by decide +kernel
theorem dX2_firstWrong_69 : decode cX2_firstWrong 69 = .ok (.getfield 18, 3) := by decide +kernel
theorem dX2_firstWrong_72 : decode cX2_firstWrong 72 = .ok (.iload_n 2, 1) := by decide +kernel
theorem dX2_firstWrong_73 : decode cX2_firstWrong 73 = .ok (.if_icmp .ge 10, 3) := by decide +kernel
theorem dX2_firstWrong_76 : decode cX2_firstWrong 76 = .ok (.aload_n 0, 1) := by decide +kernel
theorem dX2_firstWrong_77 : decode cX2_firstWrong 77 = .ok (.getfield 18, 3) := by decide +kernel
theorem dX2_firstWrong_80 : decode cX2_firstWrong 80 = .ok (.goto 5, 3) := by decide +kernel
theorem dX2_firstWrong_83 : decode cX2_firstWrong 83 = .ok (.bipush (-6), 2) := by decide +kernel
theorem dX2_firstWrong_85 : decode cX2_firstWrong 85 = .ok (.ireturn, 1) := by decide +kernel
set_option maxRecDepth 20000 in
theorem ggX2_firstWrongOfSlips_X2_firstWrongOfSlip : GoodIn wsX2_firstWrongOfSlips wsX2_firstWrongOfSlip := goodIn_r _ [6, 1, 7, 8, 9, 5, 10, 11, 12, 13, 14, 15, 16, 17, 18, 19, 20, 21, 22, 23, 24, 25, 26, 27, 28, 33, 34, 35] (by decide +kernel) (by decide +kernel)
set_option maxRecDepth 20000 in
theorem gX2_firstWrongOfSlips_X2_firstWrongOfSlip : GoodIn wsX2_firstWrongOfSlips (wsV RX2 37 RX2 yX2_firstWrongOfSlip wsX2_firstWrongOfSlip) := goodIn_app (goodIn_of _ (by decide +kernel)) ggX2_firstWrongOfSlips_X2_firstWrongOfSlip
set_option maxRecDepth 20000 in
theorem ggX2_firstWrongOfSlips_X2_lengthOfSlip : GoodIn wsX2_firstWrongOfSlips wsX2_lengthOfSlip := goodIn_r _ [32, 7, 8, 9, 5, 10, 11, 12, 13, 14, 1, 15, 33, 34, 35] (by decide +kernel) (by decide +kernel)
set_option maxRecDepth 20000 in
theorem gX2_firstWrongOfSlips_X2_lengthOfSlip : GoodIn wsX2_firstWrongOfSlips (wsV RX2 41 RX2 yX2_lengthOfSlip wsX2_lengthOfSlip) := goodIn_app (goodIn_of _ (by decide +kernel)) ggX2_firstWrongOfSlips_X2_lengthOfSlip
theorem dX2_firstWrongOfSlips_0 : decode cX2_firstWrongOfSlips 0 = .ok (.iconst 0, 1) := by decide +kernel
theorem dX2_firstWrongOfSlips_1 : decode cX2_firstWrongOfSlips 1 = .ok (.istore_n 2, 1) := by decide +kernel
theorem dX2_firstWrongOfSlips_2 : decode cX2_firstWrongOfSlips 2 = .ok (.iconst 0, 1) := by decide +kernel
theorem dX2_firstWrongOfSlips_3 : decode cX2_firstWrongOfSlips 3 = .ok (.istore_n 3, 1) := by decide +kernel
theorem dX2_firstWrongOfSlips_4 : decode cX2_firstWrongOfSlips 4 = .ok (.iload_n 3, 1) := by decide +kernel
theorem dX2_firstWrongOfSlips_5 : decode cX2_firstWrongOfSlips 5 = .ok (.bipush 10, 2) := by decide +kernel
theorem dX2_firstWrongOfSlips_7 : decode cX2_firstWrongOfSlips 7 = .ok (.if_icmp .ge 43, 3) := by decide +kernel
theorem dX2_firstWrongOfSlips_10 : decode cX2_firstWrongOfSlips 10 = .ok (.iload_n 2, 1) := by decide +kernel
theorem dX2_firstWrongOfSlips_11 : decode cX2_firstWrongOfSlips 11 = .ok (.aload_n 0, 1) := by decide +kernel
theorem dX2_firstWrongOfSlips_12 : decode cX2_firstWrongOfSlips 12 = .ok (.getfield 18, 3) := by decide +kernel
theorem dX2_firstWrongOfSlips_15 : decode cX2_firstWrongOfSlips 15 = .ok (.if_icmp .ge 35, 3) := by decide +kernel
theorem dX2_firstWrongOfSlips_18 : decode cX2_firstWrongOfSlips 18 = .ok (.aload_n 0, 1) := by decide +kernel
theorem dX2_firstWrongOfSlips_19 : decode cX2_firstWrongOfSlips 19 = .ok (.iload_n 2, 1) := by decide +kernel
theorem dX2_firstWrongOfSlips_20 : decode cX2_firstWrongOfSlips 20 = .ok (.iload_n 1, 1) := by decide +kernel
theorem dX2_firstWrongOfSlips_21 : decode cX2_firstWrongOfSlips 21 = .ok (.invokevirtual 37, 3) := by decide +kernel
theorem dX2_firstWrongOfSlips_24 : decode cX2_firstWrongOfSlips 24 = .ok (.istore 4, 2) := by decide +kernel
theorem dX2_firstWrongOfSlips_26 : decode cX2_firstWrongOfSlips 26 = .ok (.iload 4, 2) := by decide +kernel
theorem dX2_firstWrongOfSlips_28 : decode cX2_firstWrongOfSlips 28 = .ok (.bipush (-6), 2) := by decide +kernel
theorem dX2_firstWrongOfSlips_30 : decode cX2_firstWrongOfSlips 30 = .ok (.if_icmp .eq 6, 3) := by decide +kernel
theorem dX2_firstWrongOfSlips_33 : decode cX2_firstWrongOfSlips 33 = .ok (.iload 4, 2) := by decide +kernel
theorem dX2_firstWrongOfSlips_35 : decode cX2_firstWrongOfSlips 35 = .ok (.ireturn, 1) := by decide +kernel
theorem dX2_firstWrongOfSlips_36 : decode cX2_firstWrongOfSlips 36 = .ok (.iload_n 2, 1) := by decide +kernel
theorem dX2_firstWrongOfSlips_37 : decode cX2_firstWrongOfSlips 37 = .ok (.aload_n 0, 1) := by decide +kernel
theorem dX2_firstWrongOfSlips_38 : decode cX2_firstWrongOfSlips 38 = .ok (.iload_n 2, 1) := by decide +kernel
theorem dX2_firstWrongOfSlips_39 : decode cX2_firstWrongOfSlips 39 = .ok (.invokevirtual 41, 3) := by decide +kernel
theorem dX2_firstWrongOfSlips_42 : decode cX2_firstWrongOfSlips 42 = .ok (.iadd, 1) := by decide +kernel
theorem dX2_firstWrongOfSlips_43 : decode cX2_firstWrongOfSlips 43 = .ok (.istore_n 2, 1) := by decide +kernel
theorem dX2_firstWrongOfSlips_44 : decode cX2_firstWrongOfSlips 44 = .ok (.iinc 3 1, 3) := by decide +kernel
theorem dX2_firstWrongOfSlips_47 : decode cX2_firstWrongOfSlips 47 = .ok (.goto (-43), 3) := by decide +kernel
theorem dX2_firstWrongOfSlips_50 : decode cX2_firstWrongOfSlips 50 = .ok (.iload_n 2, 1) := by decide +kernel
theorem dX2_firstWrongOfSlips_51 : decode cX2_firstWrongOfSlips 51 = .ok (.aload_n 0, 1) := by decide +kernel
theorem dX2_firstWrongOfSlips_52 : decode cX2_firstWrongOfSlips 52 = .ok (.getfield 18, 3) := by decide +kernel
theorem dX2_firstWrongOfSlips_55 : decode cX2_firstWrongOfSlips 55 = .ok (.if_icmp .ge 7, 3) := by decide +kernel
theorem dX2_firstWrongOfSlips_58 : decode cX2_firstWrongOfSlips 58 = .ok (.iload_n 2, 1) := by decide +kernel
theorem dX2_firstWrongOfSlips_59 : decode cX2_firstWrongOfSlips 59 = .ok (.goto 5, 3) := by decide +kernel
theorem dX2_firstWrongOfSlips_62 : decode cX2_firstWrongOfSlips 62 = .ok (.bipush (-6), 2) := by decide +kernel
theorem dX2_firstWrongOfSlips_64 : decode cX2_firstWrongOfSlips 64 = .ok (.ireturn, 1) := by decide +kernel
set_option maxRecDepth 20000 in
theorem ggX2_firstWrongOfSlip_X2_kindAt : GoodIn wsX2_firstWrongOfSlip wsX2_kindAt := goodIn_r _ [6, 7, 8, 9, 5, 10, 1, 11, 25, 26, 27] (by decide +kernel) (by decide +kernel)
set_option maxRecDepth 20000 in
theorem gX2_firstWrongOfSlip_X2_kindAt : GoodIn wsX2_firstWrongOfSlip (wsV RX2 44 RX2 yX2_kindAt wsX2_kindAt) := goodIn_app (goodIn_of _ (by decide +kernel)) ggX2_firstWrongOfSlip_X2_kindAt
set_option maxRecDepth 20000 in
theorem ggX2_firstWrongOfSlip_X2_signAt : GoodIn wsX2_firstWrongOfSlip wsX2_signAt := goodIn_r _ [10, 1, 11, 25, 26, 27] (by decide +kernel) (by decide +kernel)
set_option maxRecDepth 20000 in
theorem gX2_firstWrongOfSlip_X2_signAt : GoodIn wsX2_firstWrongOfSlip (wsV RX2 22 RX2 yX2_signAt wsX2_signAt) := goodIn_app (goodIn_of _ (by decide +kernel)) ggX2_firstWrongOfSlip_X2_signAt
set_option maxRecDepth 20000 in
theorem ggX2_firstWrongOfSlip_X6_sitesFor : GoodIn wsX2_firstWrongOfSlip wsX6_sitesFor := goodIn_r _ [15] (by decide +kernel) (by decide +kernel)
set_option maxRecDepth 20000 in
theorem gX2_firstWrongOfSlip_X6_sitesFor : GoodIn wsX2_firstWrongOfSlip (va_wsS RX2 47 yX6_sitesFor wsX6_sitesFor) := goodIn_app (goodIn_of _ (by decide +kernel)) ggX2_firstWrongOfSlip_X6_sitesFor
set_option maxRecDepth 20000 in
theorem ggX2_firstWrongOfSlip_X2_markAt : GoodIn wsX2_firstWrongOfSlip wsX2_markAt := goodIn_r _ [19, 7, 8, 9, 5, 10, 1, 11, 20, 21, 22, 23, 24, 25, 26, 27] (by decide +kernel) (by decide +kernel)
set_option maxRecDepth 20000 in
theorem gX2_firstWrongOfSlip_X2_markAt : GoodIn wsX2_firstWrongOfSlip (wsV RX2 34 RX2 yX2_markAt wsX2_markAt) := goodIn_app (goodIn_of _ (by decide +kernel)) ggX2_firstWrongOfSlip_X2_markAt
theorem dX2_firstWrongOfSlip_0 : decode cX2_firstWrongOfSlip 0 = .ok (.aload_n 0, 1) := by decide +kernel
theorem dX2_firstWrongOfSlip_1 : decode cX2_firstWrongOfSlip 1 = .ok (.iload_n 1, 1) := by decide +kernel
theorem dX2_firstWrongOfSlip_2 : decode cX2_firstWrongOfSlip 2 = .ok (.invokevirtual 44, 3) := by decide +kernel
theorem dX2_firstWrongOfSlip_5 : decode cX2_firstWrongOfSlip 5 = .ok (.istore_n 3, 1) := by decide +kernel
theorem dX2_firstWrongOfSlip_6 : decode cX2_firstWrongOfSlip 6 = .ok (.iload_n 3, 1) := by decide +kernel
theorem dX2_firstWrongOfSlip_7 : decode cX2_firstWrongOfSlip 7 = .ok (.ifCond .ge 5, 3) := by decide +kernel
theorem dX2_firstWrongOfSlip_10 : decode cX2_firstWrongOfSlip 10 = .ok (.iload_n 1, 1) := by decide +kernel
theorem dX2_firstWrongOfSlip_11 : decode cX2_firstWrongOfSlip 11 = .ok (.ireturn, 1) := by decide +kernel
theorem dX2_firstWrongOfSlip_12 : decode cX2_firstWrongOfSlip 12 = .ok (.iload_n 1, 1) := by decide +kernel
theorem dX2_firstWrongOfSlip_13 : decode cX2_firstWrongOfSlip 13 = .ok (.iconst 1, 1) := by decide +kernel
theorem dX2_firstWrongOfSlip_14 : decode cX2_firstWrongOfSlip 14 = .ok (.iadd, 1) := by decide +kernel
theorem dX2_firstWrongOfSlip_15 : decode cX2_firstWrongOfSlip 15 = .ok (.aload_n 0, 1) := by decide +kernel
theorem dX2_firstWrongOfSlip_16 : decode cX2_firstWrongOfSlip 16 = .ok (.getfield 18, 3) := by decide +kernel
theorem dX2_firstWrongOfSlip_19 : decode cX2_firstWrongOfSlip 19 = .ok (.if_icmp .lt 8, 3) := by decide +kernel
theorem dX2_firstWrongOfSlip_22 : decode cX2_firstWrongOfSlip 22 = .ok (.aload_n 0, 1) := by decide +kernel
theorem dX2_firstWrongOfSlip_23 : decode cX2_firstWrongOfSlip 23 = .ok (.getfield 18, 3) := by decide +kernel
theorem dX2_firstWrongOfSlip_26 : decode cX2_firstWrongOfSlip 26 = .ok (.ireturn, 1) := by decide +kernel
theorem dX2_firstWrongOfSlip_27 : decode cX2_firstWrongOfSlip 27 = .ok (.aload_n 0, 1) := by decide +kernel
theorem dX2_firstWrongOfSlip_28 : decode cX2_firstWrongOfSlip 28 = .ok (.iload_n 1, 1) := by decide +kernel
theorem dX2_firstWrongOfSlip_29 : decode cX2_firstWrongOfSlip 29 = .ok (.iconst 1, 1) := by decide +kernel
theorem dX2_firstWrongOfSlip_30 : decode cX2_firstWrongOfSlip 30 = .ok (.iadd, 1) := by decide +kernel
theorem dX2_firstWrongOfSlip_31 : decode cX2_firstWrongOfSlip 31 = .ok (.invokevirtual 22, 3) := by decide +kernel
theorem dX2_firstWrongOfSlip_34 : decode cX2_firstWrongOfSlip 34 = .ok (.bipush 48, 2) := by decide +kernel
theorem dX2_firstWrongOfSlip_36 : decode cX2_firstWrongOfSlip 36 = .ok (.isub, 1) := by decide +kernel
theorem dX2_firstWrongOfSlip_37 : decode cX2_firstWrongOfSlip 37 = .ok (.istore 4, 2) := by decide +kernel
theorem dX2_firstWrongOfSlip_39 : decode cX2_firstWrongOfSlip 39 = .ok (.iload 4, 2) := by decide +kernel
theorem dX2_firstWrongOfSlip_41 : decode cX2_firstWrongOfSlip 41 = .ok (.ifCond .lt 13, 3) := by decide +kernel
theorem dX2_firstWrongOfSlip_44 : decode cX2_firstWrongOfSlip 44 = .ok (.iload 4, 2) := by decide +kernel
theorem dX2_firstWrongOfSlip_46 : decode cX2_firstWrongOfSlip 46 = .ok (.iload_n 3, 1) := by decide +kernel
theorem dX2_firstWrongOfSlip_47 : decode cX2_firstWrongOfSlip 47 = .ok (.iload_n 2, 1) := by decide +kernel
theorem dX2_firstWrongOfSlip_48 : decode cX2_firstWrongOfSlip 48 = .ok (.invokestatic 47, 3) := by decide +kernel
theorem dX2_firstWrongOfSlip_51 : decode cX2_firstWrongOfSlip 51 = .ok (.if_icmp .lt 7, 3) := by decide +kernel
theorem dX2_firstWrongOfSlip_54 : decode cX2_firstWrongOfSlip 54 = .ok (.iload_n 1, 1) := by decide +kernel
theorem dX2_firstWrongOfSlip_55 : decode cX2_firstWrongOfSlip 55 = .ok (.iconst 1, 1) := by decide +kernel
theorem dX2_firstWrongOfSlip_56 : decode cX2_firstWrongOfSlip 56 = .ok (.iadd, 1) := by decide +kernel
theorem dX2_firstWrongOfSlip_57 : decode cX2_firstWrongOfSlip 57 = .ok (.ireturn, 1) := by decide +kernel
theorem dX2_firstWrongOfSlip_58 : decode cX2_firstWrongOfSlip 58 = .ok (.iload_n 3, 1) := by decide +kernel
theorem dX2_firstWrongOfSlip_59 : decode cX2_firstWrongOfSlip 59 = .ok (.ifCond .eq 6, 3) := by decide +kernel
theorem dX2_firstWrongOfSlip_62 : decode cX2_firstWrongOfSlip 62 = .ok (.bipush (-6), 2) := by decide +kernel
theorem dX2_firstWrongOfSlip_64 : decode cX2_firstWrongOfSlip 64 = .ok (.ireturn, 1) := by decide +kernel
theorem dX2_firstWrongOfSlip_65 : decode cX2_firstWrongOfSlip 65 = .ok (.iload_n 1, 1) := by decide +kernel
theorem dX2_firstWrongOfSlip_66 : decode cX2_firstWrongOfSlip 66 = .ok (.iconst 2, 1) := by decide +kernel
theorem dX2_firstWrongOfSlip_67 : decode cX2_firstWrongOfSlip 67 = .ok (.iadd, 1) := by decide +kernel
theorem dX2_firstWrongOfSlip_68 : decode cX2_firstWrongOfSlip 68 = .ok (.aload_n 0, 1) := by decide +kernel
theorem dX2_firstWrongOfSlip_69 : decode cX2_firstWrongOfSlip 69 = .ok (.getfield 18, 3) := by decide +kernel
theorem dX2_firstWrongOfSlip_72 : decode cX2_firstWrongOfSlip 72 = .ok (.if_icmp .lt 8, 3) := by decide +kernel
theorem dX2_firstWrongOfSlip_75 : decode cX2_firstWrongOfSlip 75 = .ok (.aload_n 0, 1) := by decide +kernel
theorem dX2_firstWrongOfSlip_76 : decode cX2_firstWrongOfSlip 76 = .ok (.getfield 18, 3) := by decide +kernel
theorem dX2_firstWrongOfSlip_79 : decode cX2_firstWrongOfSlip 79 = .ok (.ireturn, 1) := by decide +kernel
theorem dX2_firstWrongOfSlip_80 : decode cX2_firstWrongOfSlip 80 = .ok (.aload_n 0, 1) := by decide +kernel
theorem dX2_firstWrongOfSlip_81 : decode cX2_firstWrongOfSlip 81 = .ok (.iload_n 1, 1) := by decide +kernel
theorem dX2_firstWrongOfSlip_82 : decode cX2_firstWrongOfSlip 82 = .ok (.iconst 2, 1) := by decide +kernel
theorem dX2_firstWrongOfSlip_83 : decode cX2_firstWrongOfSlip 83 = .ok (.iadd, 1) := by decide +kernel
theorem dX2_firstWrongOfSlip_84 : decode cX2_firstWrongOfSlip 84 = .ok (.invokevirtual 34, 3) := by decide +kernel
theorem dX2_firstWrongOfSlip_87 : decode cX2_firstWrongOfSlip 87 = .ok (.istore 5, 2) := by decide +kernel
theorem dX2_firstWrongOfSlip_89 : decode cX2_firstWrongOfSlip 89 = .ok (.iload 5, 2) := by decide +kernel
theorem dX2_firstWrongOfSlip_91 : decode cX2_firstWrongOfSlip 91 = .ok (.ifCond .lt 9, 3) := by decide +kernel
theorem dX2_firstWrongOfSlip_94 : decode cX2_firstWrongOfSlip 94 = .ok (.iload 5, 2) := by decide +kernel
theorem dX2_firstWrongOfSlip_96 : decode cX2_firstWrongOfSlip 96 = .ok (.iconst 4, 1) := by decide +kernel
theorem dX2_firstWrongOfSlip_97 : decode cX2_firstWrongOfSlip 97 = .ok (.if_icmp .lt 9, 3) := by decide +kernel
theorem dX2_firstWrongOfSlip_100 : decode cX2_firstWrongOfSlip 100 = .ok (.iload_n 1, 1) := by decide +kernel
theorem dX2_firstWrongOfSlip_101 : decode cX2_firstWrongOfSlip 101 = .ok (.iconst 2, 1) := by decide +kernel
theorem dX2_firstWrongOfSlip_102 : decode cX2_firstWrongOfSlip 102 = .ok (.iadd, 1) := by decide +kernel
theorem dX2_firstWrongOfSlip_103 : decode cX2_firstWrongOfSlip 103 = .ok (.goto 5, 3) := by decide +kernel
theorem dX2_firstWrongOfSlip_106 : decode cX2_firstWrongOfSlip 106 = .ok (.bipush (-6), 2) := by decide +kernel
theorem dX2_firstWrongOfSlip_108 : decode cX2_firstWrongOfSlip 108 = .ok (.ireturn, 1) := by decide +kernel
set_option maxRecDepth 20000 in
theorem ggX2_kindAt_X2_signAt : GoodIn wsX2_kindAt wsX2_signAt := goodIn_r _ [5, 6, 7, 8, 9, 10] (by decide +kernel) (by decide +kernel)
set_option maxRecDepth 20000 in
theorem gX2_kindAt_X2_signAt : GoodIn wsX2_kindAt (wsV RX2 22 RX2 yX2_signAt wsX2_signAt) := goodIn_app (goodIn_of _ (by decide +kernel)) ggX2_kindAt_X2_signAt
theorem dX2_kindAt_0 : decode cX2_kindAt 0 = .ok (.aload_n 0, 1) := by decide +kernel
theorem dX2_kindAt_1 : decode cX2_kindAt 1 = .ok (.iload_n 1, 1) := by decide +kernel
theorem dX2_kindAt_2 : decode cX2_kindAt 2 = .ok (.invokevirtual 22, 3) := by decide +kernel
theorem dX2_kindAt_5 : decode cX2_kindAt 5 = .ok (.lookupswitch 51 #[(99, 43), (111, 49), (115, 45), (116, 47)], 43) := by decide +kernel
theorem dX2_kindAt_48 : decode cX2_kindAt 48 = .ok (.iconst 0, 1) := by decide +kernel
theorem dX2_kindAt_49 : decode cX2_kindAt 49 = .ok (.ireturn, 1) := by decide +kernel
theorem dX2_kindAt_50 : decode cX2_kindAt 50 = .ok (.iconst 1, 1) := by decide +kernel
theorem dX2_kindAt_51 : decode cX2_kindAt 51 = .ok (.ireturn, 1) := by decide +kernel
theorem dX2_kindAt_52 : decode cX2_kindAt 52 = .ok (.iconst 2, 1) := by decide +kernel
theorem dX2_kindAt_53 : decode cX2_kindAt 53 = .ok (.ireturn, 1) := by decide +kernel
theorem dX2_kindAt_54 : decode cX2_kindAt 54 = .ok (.iconst 3, 1) := by decide +kernel
theorem dX2_kindAt_55 : decode cX2_kindAt 55 = .ok (.ireturn, 1) := by decide +kernel
theorem dX2_kindAt_56 : decode cX2_kindAt 56 = .ok (.iconst (-1), 1) := by decide +kernel
theorem dX2_kindAt_57 : decode cX2_kindAt 57 = .ok (.ireturn, 1) := by decide +kernel
set_option maxRecDepth 20000 in
theorem ggX2_lengthOfSlip_X2_kindAt : GoodIn wsX2_lengthOfSlip wsX2_kindAt := goodIn_r _ [5, 6, 7, 8, 4, 9, 10, 11, 12, 13, 14] (by decide +kernel) (by decide +kernel)
set_option maxRecDepth 20000 in
theorem gX2_lengthOfSlip_X2_kindAt : GoodIn wsX2_lengthOfSlip (wsV RX2 44 RX2 yX2_kindAt wsX2_kindAt) := goodIn_app (goodIn_of _ (by decide +kernel)) ggX2_lengthOfSlip_X2_kindAt
theorem dX2_lengthOfSlip_0 : decode cX2_lengthOfSlip 0 = .ok (.aload_n 0, 1) := by decide +kernel
theorem dX2_lengthOfSlip_1 : decode cX2_lengthOfSlip 1 = .ok (.iload_n 1, 1) := by decide +kernel
theorem dX2_lengthOfSlip_2 : decode cX2_lengthOfSlip 2 = .ok (.invokevirtual 44, 3) := by decide +kernel
theorem dX2_lengthOfSlip_5 : decode cX2_lengthOfSlip 5 = .ok (.ifCond .ne 7, 3) := by decide +kernel
theorem dX2_lengthOfSlip_8 : decode cX2_lengthOfSlip 8 = .ok (.iconst 3, 1) := by decide +kernel
theorem dX2_lengthOfSlip_9 : decode cX2_lengthOfSlip 9 = .ok (.goto 4, 3) := by decide +kernel
theorem dX2_lengthOfSlip_12 : decode cX2_lengthOfSlip 12 = .ok (.iconst 2, 1) := by decide +kernel
theorem dX2_lengthOfSlip_13 : decode cX2_lengthOfSlip 13 = .ok (.ireturn, 1) := by decide +kernel
set_option maxRecDepth 20000 in
theorem ggX2_mapCode_X2_markAt : GoodIn wsX2_mapCode wsX2_markAt := goodIn_r _ [6, 7, 8, 9, 5, 10, 1, 11, 12, 13, 14, 15, 16, 31, 32, 33] (by decide +kernel) (by decide +kernel)
set_option maxRecDepth 20000 in
theorem gX2_mapCode_X2_markAt : GoodIn wsX2_mapCode (wsV RX2 34 RX2 yX2_markAt wsX2_markAt) := goodIn_app (goodIn_of _ (by decide +kernel)) ggX2_mapCode_X2_markAt
set_option maxRecDepth 20000 in
theorem ggX2_mapCode_X1_with : GoodIn wsX2_mapCode wsX1_with := goodIn_r _ [20, 21, 22, 19, 23, 24, 25, 26, 27, 28, 29, 30] (by decide +kernel) (by decide +kernel)
set_option maxRecDepth 20000 in
theorem gX2_mapCode_X1_with : GoodIn wsX2_mapCode (va_wsS RX2 52 yX1_with wsX1_with) := goodIn_app (goodIn_of _ (by decide +kernel)) ggX2_mapCode_X1_with
theorem dX2_mapCode_0 : decode cX2_mapCode 0 = .ok (.iconst 0, 1) := by decide +kernel
theorem dX2_mapCode_1 : decode cX2_mapCode 1 = .ok (.istore_n 1, 1) := by decide +kernel
theorem dX2_mapCode_2 : decode cX2_mapCode 2 = .ok (.iconst 0, 1) := by decide +kernel
theorem dX2_mapCode_3 : decode cX2_mapCode 3 = .ok (.istore_n 2, 1) := by decide +kernel
theorem dX2_mapCode_4 : decode cX2_mapCode 4 = .ok (.iload_n 2, 1) := by decide +kernel
theorem dX2_mapCode_5 : decode cX2_mapCode 5 = .ok (.aload_n 0, 1) := by decide +kernel
theorem dX2_mapCode_6 : decode cX2_mapCode 6 = .ok (.getfield 18, 3) := by decide +kernel
theorem dX2_mapCode_9 : decode cX2_mapCode 9 = .ok (.if_icmp .ge 26, 3) := by decide +kernel
theorem dX2_mapCode_12 : decode cX2_mapCode 12 = .ok (.iload_n 2, 1) := by decide +kernel
theorem dX2_mapCode_13 : decode cX2_mapCode 13 = .ok (.bipush 6, 2) := by decide +kernel
theorem dX2_mapCode_15 : decode cX2_mapCode 15 = .ok (.if_icmp .ge 20, 3) := by decide +kernel
theorem dX2_mapCode_18 : decode cX2_mapCode 18 = .ok (.iload_n 1, 1) := by decide +kernel
theorem dX2_mapCode_19 : decode cX2_mapCode 19 = .ok (.iload_n 2, 1) := by decide +kernel
theorem dX2_mapCode_20 : decode cX2_mapCode 20 = .ok (.aload_n 0, 1) := by decide +kernel
theorem dX2_mapCode_21 : decode cX2_mapCode 21 = .ok (.iload_n 2, 1) := by decide +kernel
theorem dX2_mapCode_22 : decode cX2_mapCode 22 = .ok (.invokevirtual 34, 3) := by decide +kernel
theorem dX2_mapCode_25 : decode cX2_mapCode 25 = .ok (.invokestatic 52, 3) := by decide +kernel
theorem dX2_mapCode_28 : decode cX2_mapCode 28 = .ok (.istore_n 1, 1) := by decide +kernel
theorem dX2_mapCode_29 : decode cX2_mapCode 29 = .ok (.iinc 2 1, 3) := by decide +kernel
theorem dX2_mapCode_32 : decode cX2_mapCode 32 = .ok (.goto (-28), 3) := by decide +kernel
theorem dX2_mapCode_35 : decode cX2_mapCode 35 = .ok (.iload_n 1, 1) := by decide +kernel
theorem dX2_mapCode_36 : decode cX2_mapCode 36 = .ok (.ireturn, 1) := by decide +kernel
set_option maxRecDepth 20000 in
theorem ggX2_readSlips_X2_kindAt : GoodIn wsX2_readSlips wsX2_kindAt := goodIn_r _ [7, 8, 9, 10, 6, 11, 2, 12, 30, 31, 32] (by decide +kernel) (by decide +kernel)
set_option maxRecDepth 20000 in
theorem gX2_readSlips_X2_kindAt : GoodIn wsX2_readSlips (wsV RX2 44 RX2 yX2_kindAt wsX2_kindAt) := goodIn_app (goodIn_of _ (by decide +kernel)) ggX2_readSlips_X2_kindAt
set_option maxRecDepth 20000 in
theorem ggX2_readSlips_X2_markAt : GoodIn wsX2_readSlips wsX2_markAt := goodIn_r _ [16, 8, 9, 10, 6, 11, 2, 12, 17, 18, 19, 20, 21, 30, 31, 32] (by decide +kernel) (by decide +kernel)
set_option maxRecDepth 20000 in
theorem gX2_readSlips_X2_markAt : GoodIn wsX2_readSlips (wsV RX2 34 RX2 yX2_markAt wsX2_markAt) := goodIn_app (goodIn_of _ (by decide +kernel)) ggX2_readSlips_X2_markAt
set_option maxRecDepth 20000 in
theorem ggX2_readSlips_X2_signAt : GoodIn wsX2_readSlips wsX2_signAt := goodIn_r _ [11, 2, 12, 30, 31, 32] (by decide +kernel) (by decide +kernel)
set_option maxRecDepth 20000 in
theorem gX2_readSlips_X2_signAt : GoodIn wsX2_readSlips (wsV RX2 22 RX2 yX2_signAt wsX2_signAt) := goodIn_app (goodIn_of _ (by decide +kernel)) ggX2_readSlips_X2_signAt
set_option maxRecDepth 20000 in
theorem ggX2_readSlips_X6_number : GoodIn wsX2_readSlips wsX6_number := goodIn_r _ [25] (by decide +kernel) (by decide +kernel)
set_option maxRecDepth 20000 in
theorem gX2_readSlips_X6_number : GoodIn wsX2_readSlips (va_wsS RX2 58 yX6_number wsX6_number) := goodIn_app (goodIn_of _ (by decide +kernel)) ggX2_readSlips_X6_number
set_option maxRecDepth 20000 in
theorem ggX2_readSlips_X2_lengthOfSlip : GoodIn wsX2_readSlips wsX2_lengthOfSlip := goodIn_r _ [29, 3, 4, 5, 6, 7, 8, 9, 10, 11, 2, 12, 30, 31, 32] (by decide +kernel) (by decide +kernel)
set_option maxRecDepth 20000 in
theorem gX2_readSlips_X2_lengthOfSlip : GoodIn wsX2_readSlips (wsV RX2 41 RX2 yX2_lengthOfSlip wsX2_lengthOfSlip) := goodIn_app (goodIn_of _ (by decide +kernel)) ggX2_readSlips_X2_lengthOfSlip
theorem dX2_readSlips_0 : decode cX2_readSlips 0 = .ok (.iconst 0, 1) := by decide +kernel
theorem dX2_readSlips_1 : decode cX2_readSlips 1 = .ok (.istore_n 1, 1) := by decide +kernel
theorem dX2_readSlips_2 : decode cX2_readSlips 2 = .ok (.iconst 0, 1) := by decide +kernel
theorem dX2_readSlips_3 : decode cX2_readSlips 3 = .ok (.istore_n 2, 1) := by decide +kernel
theorem dX2_readSlips_4 : decode cX2_readSlips 4 = .ok (.iload_n 1, 1) := by decide +kernel
theorem dX2_readSlips_5 : decode cX2_readSlips 5 = .ok (.aload_n 0, 1) := by decide +kernel
theorem dX2_readSlips_6 : decode cX2_readSlips 6 = .ok (.getfield 15, 3) := by decide +kernel
theorem dX2_readSlips_9 : decode cX2_readSlips 9 = .ok (.arraylength, 1) := by decide +kernel
theorem dX2_readSlips_10 : decode cX2_readSlips 10 = .ok (.if_icmp .ge 70, 3) := by decide +kernel
theorem dX2_readSlips_13 : decode cX2_readSlips 13 = .ok (.iload_n 2, 1) := by decide +kernel
theorem dX2_readSlips_14 : decode cX2_readSlips 14 = .ok (.aload_n 0, 1) := by decide +kernel
theorem dX2_readSlips_15 : decode cX2_readSlips 15 = .ok (.getfield 18, 3) := by decide +kernel
theorem dX2_readSlips_18 : decode cX2_readSlips 18 = .ok (.if_icmp .ge 62, 3) := by decide +kernel
theorem dX2_readSlips_21 : decode cX2_readSlips 21 = .ok (.aload_n 0, 1) := by decide +kernel
theorem dX2_readSlips_22 : decode cX2_readSlips 22 = .ok (.iload_n 2, 1) := by decide +kernel
theorem dX2_readSlips_23 : decode cX2_readSlips 23 = .ok (.invokevirtual 44, 3) := by decide +kernel
theorem dX2_readSlips_26 : decode cX2_readSlips 26 = .ok (.istore_n 3, 1) := by decide +kernel
theorem dX2_readSlips_27 : decode cX2_readSlips 27 = .ok (.iload_n 3, 1) := by decide +kernel
theorem dX2_readSlips_28 : decode cX2_readSlips 28 = .ok (.ifCond .ne 13, 3) := by decide +kernel
theorem dX2_readSlips_31 : decode cX2_readSlips 31 = .ok (.aload_n 0, 1) := by decide +kernel
theorem dX2_readSlips_32 : decode cX2_readSlips 32 = .ok (.iload_n 2, 1) := by decide +kernel
theorem dX2_readSlips_33 : decode cX2_readSlips 33 = .ok (.iconst 2, 1) := by decide +kernel
theorem dX2_readSlips_34 : decode cX2_readSlips 34 = .ok (.iadd, 1) := by decide +kernel
theorem dX2_readSlips_35 : decode cX2_readSlips 35 = .ok (.invokevirtual 34, 3) := by decide +kernel
theorem dX2_readSlips_38 : decode cX2_readSlips 38 = .ok (.goto 4, 3) := by decide +kernel
theorem dX2_readSlips_41 : decode cX2_readSlips 41 = .ok (.iconst 0, 1) := by decide +kernel
theorem dX2_readSlips_42 : decode cX2_readSlips 42 = .ok (.istore 4, 2) := by decide +kernel
theorem dX2_readSlips_44 : decode cX2_readSlips 44 = .ok (.aload_n 0, 1) := by decide +kernel
theorem dX2_readSlips_45 : decode cX2_readSlips 45 = .ok (.getfield 15, 3) := by decide +kernel
theorem dX2_readSlips_48 : decode cX2_readSlips 48 = .ok (.iload_n 1, 1) := by decide +kernel
theorem dX2_readSlips_49 : decode cX2_readSlips 49 = .ok (.iload_n 3, 1) := by decide +kernel
theorem dX2_readSlips_50 : decode cX2_readSlips 50 = .ok (.aload_n 0, 1) := by decide +kernel
theorem dX2_readSlips_51 : decode cX2_readSlips 51 = .ok (.iload_n 2, 1) := by decide +kernel
theorem dX2_readSlips_52 : decode cX2_readSlips 52 = .ok (.iconst 1, 1) := by decide +kernel
theorem dX2_readSlips_53 : decode cX2_readSlips 53 = .ok (.iadd, 1) := by decide +kernel
theorem dX2_readSlips_54 : decode cX2_readSlips 54 = .ok (.invokevirtual 22, 3) := by decide +kernel
theorem dX2_readSlips_57 : decode cX2_readSlips 57 = .ok (.bipush 48, 2) := by decide +kernel
theorem dX2_readSlips_59 : decode cX2_readSlips 59 = .ok (.isub, 1) := by decide +kernel
theorem dX2_readSlips_60 : decode cX2_readSlips 60 = .ok (.iload 4, 2) := by decide +kernel
theorem dX2_readSlips_62 : decode cX2_readSlips 62 = .ok (.invokestatic 58, 3) := by decide +kernel
theorem dX2_readSlips_65 : decode cX2_readSlips 65 = .ok (.iastore, 1) := by decide +kernel
theorem dX2_readSlips_66 : decode cX2_readSlips 66 = .ok (.iinc 1 1, 3) := by decide +kernel
theorem dX2_readSlips_69 : decode cX2_readSlips 69 = .ok (.iload_n 2, 1) := by decide +kernel
theorem dX2_readSlips_70 : decode cX2_readSlips 70 = .ok (.aload_n 0, 1) := by decide +kernel
theorem dX2_readSlips_71 : decode cX2_readSlips 71 = .ok (.iload_n 2, 1) := by decide +kernel
theorem dX2_readSlips_72 : decode cX2_readSlips 72 = .ok (.invokevirtual 41, 3) := by decide +kernel
theorem dX2_readSlips_75 : decode cX2_readSlips 75 = .ok (.iadd, 1) := by decide +kernel
theorem dX2_readSlips_76 : decode cX2_readSlips 76 = .ok (.istore_n 2, 1) := by decide +kernel
theorem dX2_readSlips_77 : decode cX2_readSlips 77 = .ok (.goto (-73), 3) := by decide +kernel
theorem dX2_readSlips_80 : decode cX2_readSlips 80 = .ok (.iload_n 1, 1) := by decide +kernel
theorem dX2_readSlips_81 : decode cX2_readSlips 81 = .ok (.ireturn, 1) := by decide +kernel
theorem dX2_slipAt_0 : decode cX2_slipAt 0 = .ok (.iload_n 1, 1) := by decide +kernel
theorem dX2_slipAt_1 : decode cX2_slipAt 1 = .ok (.ifCond .lt 21, 3) := by decide +kernel
theorem dX2_slipAt_4 : decode cX2_slipAt 4 = .ok (.iload_n 1, 1) := by decide +kernel
theorem dX2_slipAt_5 : decode cX2_slipAt 5 = .ok (.aload_n 0, 1) := by decide +kernel
theorem dX2_slipAt_6 : decode cX2_slipAt 6 = .ok (.getfield 15, 3) := by decide +kernel
theorem dX2_slipAt_9 : decode cX2_slipAt 9 = .ok (.arraylength, 1) := by decide +kernel
theorem dX2_slipAt_10 : decode cX2_slipAt 10 = .ok (.if_icmp .ge 12, 3) := by decide +kernel
theorem dX2_slipAt_13 : decode cX2_slipAt 13 = .ok (.aload_n 0, 1) := by decide +kernel
theorem dX2_slipAt_14 : decode cX2_slipAt 14 = .ok (.getfield 15, 3) := by decide +kernel
theorem dX2_slipAt_17 : decode cX2_slipAt 17 = .ok (.iload_n 1, 1) := by decide +kernel
theorem dX2_slipAt_18 : decode cX2_slipAt 18 = .ok (.iaload, 1) := by decide +kernel
theorem dX2_slipAt_19 : decode cX2_slipAt 19 = .ok (.goto 5, 3) := by decide +kernel
theorem dX2_slipAt_22 : decode cX2_slipAt 22 = .ok (.bipush (-6), 2) := by decide +kernel
theorem dX2_slipAt_24 : decode cX2_slipAt 24 = .ok (.ireturn, 1) := by decide +kernel
theorem dX3_init_0 : decode cX3_init 0 = .ok (.aload_n 0, 1) := by decide +kernel
theorem dX3_init_1 : decode cX3_init 1 = .ok (.invokespecial 3, 3) := by decide +kernel
theorem dX3_init_4 : decode cX3_init 4 = .ok (.aload_n 0, 1) := by decide +kernel
theorem dX3_init_5 : decode cX3_init 5 = .ok (.bipush 6, 2) := by decide +kernel
theorem dX3_init_7 : decode cX3_init 7 = .ok (.putfield 9, 3) := by decide +kernel
theorem dX3_init_10 : decode cX3_init 10 = .ok (.aload_n 0, 1) := by decide +kernel
theorem dX3_init_11 : decode cX3_init 11 = .ok (.iconst 1, 1) := by decide +kernel
theorem dX3_init_12 : decode cX3_init 12 = .ok (.putfield 15, 3) := by decide +kernel
theorem dX3_init_15 : decode cX3_init 15 = .ok (.aload_n 0, 1) := by decide +kernel
theorem dX3_init_16 : decode cX3_init 16 = .ok (.bipush 6, 2) := by decide +kernel
theorem dX3_init_18 : decode cX3_init 18 = .ok (.newarray .int, 2) := by decide +kernel
theorem dX3_init_20 : decode cX3_init 20 = .ok (.putfield 18, 3) := by decide +kernel
theorem dX3_init_23 : decode cX3_init 23 = .ok (.aload_n 0, 1) := by decide +kernel
theorem dX3_init_24 : decode cX3_init 24 = .ok (.iconst 4, 1) := by decide +kernel
theorem dX3_init_25 : decode cX3_init 25 = .ok (.newarray .int, 2) := by decide +kernel
theorem dX3_init_27 : decode cX3_init 27 = .ok (.dup, 1) := by decide +kernel
theorem dX3_init_28 : decode cX3_init 28 = .ok (.iconst 0, 1) := by decide +kernel
theorem dX3_init_29 : decode cX3_init 29 = .ok (.bipush 15, 2) := by decide +kernel
theorem dX3_init_31 : decode cX3_init 31 = .ok (.iastore, 1) := by decide +kernel
theorem dX3_init_32 : decode cX3_init 32 = .ok (.dup, 1) := by decide +kernel
theorem dX3_init_33 : decode cX3_init 33 = .ok (.iconst 1, 1) := by decide +kernel
theorem dX3_init_34 : decode cX3_init 34 = .ok (.bipush 15, 2) := by decide +kernel
theorem dX3_init_36 : decode cX3_init 36 = .ok (.iastore, 1) := by decide +kernel
theorem dX3_init_37 : decode cX3_init 37 = .ok (.dup, 1) := by decide +kernel
theorem dX3_init_38 : decode cX3_init 38 = .ok (.iconst 2, 1) := by decide +kernel
theorem dX3_init_39 : decode cX3_init 39 = .ok (.bipush 15, 2) := by decide +kernel
theorem dX3_init_41 : decode cX3_init 41 = .ok (.iastore, 1) := by decide +kernel
theorem dX3_init_42 : decode cX3_init 42 = .ok (.dup, 1) := by decide +kernel
theorem dX3_init_43 : decode cX3_init 43 = .ok (.iconst 3, 1) := by decide +kernel
theorem dX3_init_44 : decode cX3_init 44 = .ok (.bipush 15, 2) := by decide +kernel
theorem dX3_init_46 : decode cX3_init 46 = .ok (.iastore, 1) := by decide +kernel
theorem dX3_init_47 : decode cX3_init 47 = .ok (.putfield 22, 3) := by decide +kernel
theorem dX3_init_50 : decode cX3_init 50 = .ok (.return_, 1) := by decide +kernel
theorem dX3_codeOf_0 : decode cX3_codeOf 0 = .ok (.iload_n 1, 1) := by decide +kernel
theorem dX3_codeOf_1 : decode cX3_codeOf 1 = .ok (.ifCond .lt 21, 3) := by decide +kernel
theorem dX3_codeOf_4 : decode cX3_codeOf 4 = .ok (.iload_n 1, 1) := by decide +kernel
theorem dX3_codeOf_5 : decode cX3_codeOf 5 = .ok (.aload_n 0, 1) := by decide +kernel
theorem dX3_codeOf_6 : decode cX3_codeOf 6 = .ok (.getfield 18, 3) := by decide +kernel
theorem dX3_codeOf_9 : decode cX3_codeOf 9 = .ok (.arraylength, 1) := by decide +kernel
theorem dX3_codeOf_10 : decode cX3_codeOf 10 = .ok (.if_icmp .ge 12, 3) := by decide +kernel
theorem dX3_codeOf_13 : decode cX3_codeOf 13 = .ok (.aload_n 0, 1) := by decide +kernel
theorem dX3_codeOf_14 : decode cX3_codeOf 14 = .ok (.getfield 18, 3) := by decide +kernel
theorem dX3_codeOf_17 : decode cX3_codeOf 17 = .ok (.iload_n 1, 1) := by decide +kernel
theorem dX3_codeOf_18 : decode cX3_codeOf 18 = .ok (.iaload, 1) := by decide +kernel
theorem dX3_codeOf_19 : decode cX3_codeOf 19 = .ok (.goto 4, 3) := by decide +kernel
theorem dX3_codeOf_22 : decode cX3_codeOf 22 = .ok (.iconst 0, 1) := by decide +kernel
theorem dX3_codeOf_23 : decode cX3_codeOf 23 = .ok (.ireturn, 1) := by decide +kernel
theorem dX3_tell_0 : decode cX3_tell 0 = .ok (.iload_n 1, 1) := by decide +kernel
theorem dX3_tell_1 : decode cX3_tell 1 = .ok (.ifCond .lt 31, 3) := by decide +kernel
theorem dX3_tell_4 : decode cX3_tell 4 = .ok (.iload_n 1, 1) := by decide +kernel
theorem dX3_tell_5 : decode cX3_tell 5 = .ok (.aload_n 0, 1) := by decide +kernel
theorem dX3_tell_6 : decode cX3_tell 6 = .ok (.getfield 18, 3) := by decide +kernel
theorem dX3_tell_9 : decode cX3_tell 9 = .ok (.arraylength, 1) := by decide +kernel
theorem dX3_tell_10 : decode cX3_tell 10 = .ok (.if_icmp .ge 22, 3) := by decide +kernel
theorem dX3_tell_13 : decode cX3_tell 13 = .ok (.aload_n 0, 1) := by decide +kernel
theorem dX3_tell_14 : decode cX3_tell 14 = .ok (.getfield 18, 3) := by decide +kernel
theorem dX3_tell_17 : decode cX3_tell 17 = .ok (.iload_n 1, 1) := by decide +kernel
theorem dX3_tell_18 : decode cX3_tell 18 = .ok (.iload_n 2, 1) := by decide +kernel
theorem dX3_tell_19 : decode cX3_tell 19 = .ok (.iastore, 1) := by decide +kernel
theorem dX3_tell_20 : decode cX3_tell 20 = .ok (.aload_n 0, 1) := by decide +kernel
theorem dX3_tell_21 : decode cX3_tell 21 = .ok (.dup, 1) := by decide +kernel
theorem dX3_tell_22 : decode cX3_tell 22 = .ok (.getfield 25, 3) := by decide +kernel
theorem dX3_tell_25 : decode cX3_tell 25 = .ok (.iconst 1, 1) := by decide +kernel
theorem dX3_tell_26 : decode cX3_tell 26 = .ok (.iload_n 1, 1) := by decide +kernel
theorem dX3_tell_27 : decode cX3_tell 27 = .ok (.ishl, 1) := by decide +kernel
theorem dX3_tell_28 : decode cX3_tell 28 = .ok (.ior, 1) := by decide +kernel
theorem dX3_tell_29 : decode cX3_tell 29 = .ok (.putfield 25, 3) := by decide +kernel
theorem dX3_tell_32 : decode cX3_tell 32 = .ok (.return_, 1) := by decide +kernel
theorem dX3_kindsOf_0 : decode cX3_kindsOf 0 = .ok (.iload_n 1, 1) := by decide +kernel
theorem dX3_kindsOf_1 : decode cX3_kindsOf 1 = .ok (.ifCond .lt 21, 3) := by decide +kernel
theorem dX3_kindsOf_4 : decode cX3_kindsOf 4 = .ok (.iload_n 1, 1) := by decide +kernel
theorem dX3_kindsOf_5 : decode cX3_kindsOf 5 = .ok (.aload_n 0, 1) := by decide +kernel
theorem dX3_kindsOf_6 : decode cX3_kindsOf 6 = .ok (.getfield 22, 3) := by decide +kernel
theorem dX3_kindsOf_9 : decode cX3_kindsOf 9 = .ok (.arraylength, 1) := by decide +kernel
theorem dX3_kindsOf_10 : decode cX3_kindsOf 10 = .ok (.if_icmp .ge 12, 3) := by decide +kernel
theorem dX3_kindsOf_13 : decode cX3_kindsOf 13 = .ok (.aload_n 0, 1) := by decide +kernel
theorem dX3_kindsOf_14 : decode cX3_kindsOf 14 = .ok (.getfield 22, 3) := by decide +kernel
theorem dX3_kindsOf_17 : decode cX3_kindsOf 17 = .ok (.iload_n 1, 1) := by decide +kernel
theorem dX3_kindsOf_18 : decode cX3_kindsOf 18 = .ok (.iaload, 1) := by decide +kernel
theorem dX3_kindsOf_19 : decode cX3_kindsOf 19 = .ok (.goto 4, 3) := by decide +kernel
theorem dX3_kindsOf_22 : decode cX3_kindsOf 22 = .ok (.iconst 0, 1) := by decide +kernel
theorem dX3_kindsOf_23 : decode cX3_kindsOf 23 = .ok (.ireturn, 1) := by decide +kernel
theorem dX3_teach_0 : decode cX3_teach 0 = .ok (.iload_n 1, 1) := by decide +kernel
theorem dX3_teach_1 : decode cX3_teach 1 = .ok (.ifCond .lt 19, 3) := by decide +kernel
theorem dX3_teach_4 : decode cX3_teach 4 = .ok (.iload_n 1, 1) := by decide +kernel
theorem dX3_teach_5 : decode cX3_teach 5 = .ok (.aload_n 0, 1) := by decide +kernel
theorem dX3_teach_6 : decode cX3_teach 6 = .ok (.getfield 22, 3) := by decide +kernel
theorem dX3_teach_9 : decode cX3_teach 9 = .ok (.arraylength, 1) := by decide +kernel
theorem dX3_teach_10 : decode cX3_teach 10 = .ok (.if_icmp .ge 10, 3) := by decide +kernel
theorem dX3_teach_13 : decode cX3_teach 13 = .ok (.aload_n 0, 1) := by decide +kernel
theorem dX3_teach_14 : decode cX3_teach 14 = .ok (.getfield 22, 3) := by decide +kernel
theorem dX3_teach_17 : decode cX3_teach 17 = .ok (.iload_n 1, 1) := by decide +kernel
theorem dX3_teach_18 : decode cX3_teach 18 = .ok (.iload_n 2, 1) := by decide +kernel
theorem dX3_teach_19 : decode cX3_teach 19 = .ok (.iastore, 1) := by decide +kernel
theorem dX3_teach_20 : decode cX3_teach 20 = .ok (.return_, 1) := by decide +kernel
set_option maxRecDepth 20000 in
theorem ggX3_take_X3_codeOf : GoodIn wsX3_take wsX3_codeOf := goodIn_r _ [11, 5, 16, 17, 18, 19, 20, 21] (by decide +kernel) (by decide +kernel)
set_option maxRecDepth 20000 in
theorem gX3_take_X3_codeOf : GoodIn wsX3_take (wsV RX3 31 RX3 yX3_codeOf wsX3_codeOf) := goodIn_app (goodIn_of _ (by decide +kernel)) ggX3_take_X3_codeOf
set_option maxRecDepth 20000 in
theorem ggX3_take_X3_kindsOf : GoodIn wsX3_take wsX3_kindsOf := goodIn_r _ [15, 6, 16, 17, 18, 19, 20, 21] (by decide +kernel) (by decide +kernel)
set_option maxRecDepth 20000 in
theorem gX3_take_X3_kindsOf : GoodIn wsX3_take (wsV RX3 35 RX3 yX3_kindsOf wsX3_kindsOf) := goodIn_app (goodIn_of _ (by decide +kernel)) ggX3_take_X3_kindsOf
theorem dX3_take_0 : decode cX3_take 0 = .ok (.aload_n 0, 1) := by decide +kernel
theorem dX3_take_1 : decode cX3_take 1 = .ok (.aload_n 1, 1) := by decide +kernel
theorem dX3_take_2 : decode cX3_take 2 = .ok (.getfield 9, 3) := by decide +kernel
theorem dX3_take_5 : decode cX3_take 5 = .ok (.putfield 9, 3) := by decide +kernel
theorem dX3_take_8 : decode cX3_take 8 = .ok (.aload_n 0, 1) := by decide +kernel
theorem dX3_take_9 : decode cX3_take 9 = .ok (.aload_n 1, 1) := by decide +kernel
theorem dX3_take_10 : decode cX3_take 10 = .ok (.getfield 25, 3) := by decide +kernel
theorem dX3_take_13 : decode cX3_take 13 = .ok (.putfield 25, 3) := by decide +kernel
theorem dX3_take_16 : decode cX3_take 16 = .ok (.aload_n 0, 1) := by decide +kernel
theorem dX3_take_17 : decode cX3_take 17 = .ok (.aload_n 1, 1) := by decide +kernel
theorem dX3_take_18 : decode cX3_take 18 = .ok (.getfield 15, 3) := by decide +kernel
theorem dX3_take_21 : decode cX3_take 21 = .ok (.putfield 15, 3) := by decide +kernel
theorem dX3_take_24 : decode cX3_take 24 = .ok (.aload_n 0, 1) := by decide +kernel
theorem dX3_take_25 : decode cX3_take 25 = .ok (.aload_n 1, 1) := by decide +kernel
theorem dX3_take_26 : decode cX3_take 26 = .ok (.getfield 28, 3) := by decide +kernel
theorem dX3_take_29 : decode cX3_take 29 = .ok (.putfield 28, 3) := by decide +kernel
theorem dX3_take_32 : decode cX3_take 32 = .ok (.iconst 0, 1) := by decide +kernel
theorem dX3_take_33 : decode cX3_take 33 = .ok (.istore_n 2, 1) := by decide +kernel
theorem dX3_take_34 : decode cX3_take 34 = .ok (.iload_n 2, 1) := by decide +kernel
theorem dX3_take_35 : decode cX3_take 35 = .ok (.aload_n 0, 1) := by decide +kernel
theorem dX3_take_36 : decode cX3_take 36 = .ok (.getfield 18, 3) := by decide +kernel
theorem dX3_take_39 : decode cX3_take 39 = .ok (.arraylength, 1) := by decide +kernel
theorem dX3_take_40 : decode cX3_take 40 = .ok (.if_icmp .ge 20, 3) := by decide +kernel
theorem dX3_take_43 : decode cX3_take 43 = .ok (.aload_n 0, 1) := by decide +kernel
theorem dX3_take_44 : decode cX3_take 44 = .ok (.getfield 18, 3) := by decide +kernel
theorem dX3_take_47 : decode cX3_take 47 = .ok (.iload_n 2, 1) := by decide +kernel
theorem dX3_take_48 : decode cX3_take 48 = .ok (.aload_n 1, 1) := by decide +kernel
theorem dX3_take_49 : decode cX3_take 49 = .ok (.iload_n 2, 1) := by decide +kernel
theorem dX3_take_50 : decode cX3_take 50 = .ok (.invokevirtual 31, 3) := by decide +kernel
theorem dX3_take_53 : decode cX3_take 53 = .ok (.iastore, 1) := by decide +kernel
theorem dX3_take_54 : decode cX3_take 54 = .ok (.iinc 2 1, 3) := by decide +kernel
theorem dX3_take_57 : decode cX3_take 57 = .ok (.goto (-23), 3) := by decide +kernel
theorem dX3_take_60 : decode cX3_take 60 = .ok (.iconst 0, 1) := by decide +kernel
theorem dX3_take_61 : decode cX3_take 61 = .ok (.istore_n 2, 1) := by decide +kernel
theorem dX3_take_62 : decode cX3_take 62 = .ok (.iload_n 2, 1) := by decide +kernel
theorem dX3_take_63 : decode cX3_take 63 = .ok (.aload_n 0, 1) := by decide +kernel
theorem dX3_take_64 : decode cX3_take 64 = .ok (.getfield 22, 3) := by decide +kernel
theorem dX3_take_67 : decode cX3_take 67 = .ok (.arraylength, 1) := by decide +kernel
theorem dX3_take_68 : decode cX3_take 68 = .ok (.if_icmp .ge 20, 3) := by decide +kernel
theorem dX3_take_71 : decode cX3_take 71 = .ok (.aload_n 0, 1) := by decide +kernel
theorem dX3_take_72 : decode cX3_take 72 = .ok (.getfield 22, 3) := by decide +kernel
theorem dX3_take_75 : decode cX3_take 75 = .ok (.iload_n 2, 1) := by decide +kernel
theorem dX3_take_76 : decode cX3_take 76 = .ok (.aload_n 1, 1) := by decide +kernel
theorem dX3_take_77 : decode cX3_take 77 = .ok (.iload_n 2, 1) := by decide +kernel
theorem dX3_take_78 : decode cX3_take 78 = .ok (.invokevirtual 35, 3) := by decide +kernel
theorem dX3_take_81 : decode cX3_take 81 = .ok (.iastore, 1) := by decide +kernel
theorem dX3_take_82 : decode cX3_take 82 = .ok (.iinc 2 1, 3) := by decide +kernel
theorem dX3_take_85 : decode cX3_take 85 = .ok (.goto (-23), 3) := by decide +kernel
theorem dX3_take_88 : decode cX3_take 88 = .ok (.return_, 1) := by decide +kernel
theorem dX4_init_0 : decode cX4_init 0 = .ok (.aload_n 0, 1) := by decide +kernel
theorem dX4_init_1 : decode cX4_init 1 = .ok (.invokespecial 3, 3) := by decide +kernel
theorem dX4_init_4 : decode cX4_init 4 = .ok (.aload_n 0, 1) := by decide +kernel
theorem dX4_init_5 : decode cX4_init 5 = .ok (.bipush 8, 2) := by decide +kernel
theorem dX4_init_7 : decode cX4_init 7 = .ok (.anewarray 11, 3) := by decide +kernel
theorem dX4_init_10 : decode cX4_init 10 = .ok (.putfield 13, 3) := by decide +kernel
theorem dX4_init_13 : decode cX4_init 13 = .ok (.aload_n 0, 1) := by decide +kernel
theorem dX4_init_14 : decode cX4_init 14 = .ok (.sipush 15625, 3) := by decide +kernel
theorem dX4_init_17 : decode cX4_init 17 = .ok (.newarray .int, 2) := by decide +kernel
theorem dX4_init_19 : decode cX4_init 19 = .ok (.putfield 19, 3) := by decide +kernel
theorem dX4_init_22 : decode cX4_init 22 = .ok (.return_, 1) := by decide +kernel
set_option maxRecDepth 20000 in
theorem ggX4_toward_X7_isFor : GoodIn wsX4_toward wsX7_isFor := goodIn_r _ [6, 7, 8, 9, 57, 58, 59, 60, 61, 62, 63] (by decide +kernel) (by decide +kernel)
set_option maxRecDepth 20000 in
theorem gX4_toward_X7_isFor : GoodIn wsX4_toward (wsV RX4 23 RX7 yX7_isFor wsX7_isFor) := goodIn_app (goodIn_of _ (by decide +kernel)) ggX4_toward_X7_isFor
set_option maxRecDepth 20000 in
theorem ggX4_toward_X4_takeOldest : GoodIn wsX4_toward wsX4_takeOldest := goodIn_r _ [14, 15, 1, 16, 17, 5, 18, 19, 20, 21, 22, 23, 24, 25, 26, 54, 55, 56, 57, 58, 59, 60, 61, 62, 63] (by decide +kernel) (by decide +kernel)
set_option maxRecDepth 20000 in
theorem gX4_toward_X4_takeOldest : GoodIn wsX4_toward (wsV RX4 27 RX4 yX4_takeOldest wsX4_takeOldest) := goodIn_app (goodIn_of _ (by decide +kernel)) ggX4_toward_X4_takeOldest
set_option maxRecDepth 20000 in
theorem ggX4_toward_X7_begin : GoodIn wsX4_toward wsX7_begin := goodIn_r _ [30, 7, 8, 9, 31, 32, 24, 33, 34, 35, 36, 37, 38, 39, 5, 40, 41, 42, 43, 44, 26, 45, 46, 47, 48, 49, 50, 51, 52, 53, 57, 58, 59, 60, 61, 62, 63] (by decide +kernel) (by decide +kernel)
set_option maxRecDepth 20000 in
theorem gX4_toward_X7_begin : GoodIn wsX4_toward (wsV RX4 31 RX7 yX7_begin wsX7_begin) := goodIn_app (goodIn_of _ (by decide +kernel)) ggX4_toward_X7_begin
theorem dX4_toward_0 : decode cX4_toward 0 = .ok (.iconst 0, 1) := by decide +kernel
theorem dX4_toward_1 : decode cX4_toward 1 = .ok (.istore 4, 2) := by decide +kernel
theorem dX4_toward_3 : decode cX4_toward 3 = .ok (.iload 4, 2) := by decide +kernel
theorem dX4_toward_5 : decode cX4_toward 5 = .ok (.aload_n 0, 1) := by decide +kernel
theorem dX4_toward_6 : decode cX4_toward 6 = .ok (.getfield 13, 3) := by decide +kernel
theorem dX4_toward_9 : decode cX4_toward 9 = .ok (.arraylength, 1) := by decide +kernel
theorem dX4_toward_10 : decode cX4_toward 10 = .ok (.if_icmp .ge 37, 3) := by decide +kernel
theorem dX4_toward_13 : decode cX4_toward 13 = .ok (.aload_n 0, 1) := by decide +kernel
theorem dX4_toward_14 : decode cX4_toward 14 = .ok (.getfield 13, 3) := by decide +kernel
theorem dX4_toward_17 : decode cX4_toward 17 = .ok (.iload 4, 2) := by decide +kernel
theorem dX4_toward_19 : decode cX4_toward 19 = .ok (.aaload, 1) := by decide +kernel
theorem dX4_toward_20 : decode cX4_toward 20 = .ok (.astore 5, 2) := by decide +kernel
theorem dX4_toward_22 : decode cX4_toward 22 = .ok (.aload 5, 2) := by decide +kernel
theorem dX4_toward_24 : decode cX4_toward 24 = .ok (.ifnull 17, 3) := by decide +kernel
theorem dX4_toward_27 : decode cX4_toward 27 = .ok (.aload 5, 2) := by decide +kernel
theorem dX4_toward_29 : decode cX4_toward 29 = .ok (.iload_n 1, 1) := by decide +kernel
theorem dX4_toward_30 : decode cX4_toward 30 = .ok (.iload_n 2, 1) := by decide +kernel
theorem dX4_toward_31 : decode cX4_toward 31 = .ok (.iload_n 3, 1) := by decide +kernel
theorem dX4_toward_32 : decode cX4_toward 32 = .ok (.invokevirtual 23, 3) := by decide +kernel
theorem dX4_toward_35 : decode cX4_toward 35 = .ok (.ifCond .eq 6, 3) := by decide +kernel
theorem dX4_toward_38 : decode cX4_toward 38 = .ok (.aload 5, 2) := by decide +kernel
theorem dX4_toward_40 : decode cX4_toward 40 = .ok (.areturn, 1) := by decide +kernel
theorem dX4_toward_41 : decode cX4_toward 41 = .ok (.iinc 4 1, 3) := by decide +kernel
theorem dX4_toward_44 : decode cX4_toward 44 = .ok (.goto (-41), 3) := by decide +kernel
theorem dX4_toward_47 : decode cX4_toward 47 = .ok (.aload_n 0, 1) := by decide +kernel
theorem dX4_toward_48 : decode cX4_toward 48 = .ok (.invokevirtual 27, 3) := by decide +kernel
theorem dX4_toward_51 : decode cX4_toward 51 = .ok (.astore 4, 2) := by decide +kernel
theorem dX4_toward_53 : decode cX4_toward 53 = .ok (.aload 4, 2) := by decide +kernel
theorem dX4_toward_55 : decode cX4_toward 55 = .ok (.iload_n 1, 1) := by decide +kernel
theorem dX4_toward_56 : decode cX4_toward 56 = .ok (.iload_n 2, 1) := by decide +kernel
theorem dX4_toward_57 : decode cX4_toward 57 = .ok (.iload_n 3, 1) := by decide +kernel
theorem dX4_toward_58 : decode cX4_toward 58 = .ok (.invokevirtual 31, 3) := by decide +kernel
theorem dX4_toward_61 : decode cX4_toward 61 = .ok (.aload 4, 2) := by decide +kernel
theorem dX4_toward_63 : decode cX4_toward 63 = .ok (.areturn, 1) := by decide +kernel
set_option maxRecDepth 20000 in
theorem ggX4_takeOldest_X7_init : GoodIn wsX4_takeOldest wsX7_init := goodIn_r _ [7, 8, 9, 10, 11, 12, 13, 14, 18, 19, 20, 21, 22, 23, 24] (by decide +kernel) (by decide +kernel)
set_option maxRecDepth 20000 in
theorem gX4_takeOldest_X7_init_n39 : GoodIn wsX4_takeOldest (wsX7_init) := ggX4_takeOldest_X7_init
theorem dX4_takeOldest_0 : decode cX4_takeOldest 0 = .ok (.aload_n 0, 1) := by decide +kernel
theorem dX4_takeOldest_1 : decode cX4_takeOldest 1 = .ok (.getfield 35, 3) := by decide +kernel
theorem dX4_takeOldest_4 : decode cX4_takeOldest 4 = .ok (.ifCond .lt 22, 3) := by decide +kernel
theorem dX4_takeOldest_7 : decode cX4_takeOldest 7 = .ok (.aload_n 0, 1) := by decide +kernel
theorem dX4_takeOldest_8 : decode cX4_takeOldest 8 = .ok (.getfield 35, 3) := by decide +kernel
theorem dX4_takeOldest_11 : decode cX4_takeOldest 11 = .ok (.aload_n 0, 1) := by decide +kernel
theorem dX4_takeOldest_12 : decode cX4_takeOldest 12 = .ok (.getfield 13, 3) := by decide +kernel
theorem dX4_takeOldest_15 : decode cX4_takeOldest 15 = .ok (.arraylength, 1) := by decide +kernel
theorem dX4_takeOldest_16 : decode cX4_takeOldest 16 = .ok (.if_icmp .ge 10, 3) := by decide +kernel
theorem dX4_takeOldest_19 : decode cX4_takeOldest 19 = .ok (.aload_n 0, 1) := by decide +kernel
theorem dX4_takeOldest_20 : decode cX4_takeOldest 20 = .ok (.getfield 35, 3) := by decide +kernel
theorem dX4_takeOldest_23 : decode cX4_takeOldest 23 = .ok (.goto 4, 3) := by decide +kernel
theorem dX4_takeOldest_26 : decode cX4_takeOldest 26 = .ok (.iconst 0, 1) := by decide +kernel
theorem dX4_takeOldest_27 : decode cX4_takeOldest 27 = .ok (.istore_n 1, 1) := by decide +kernel
theorem dX4_takeOldest_28 : decode cX4_takeOldest 28 = .ok (.aload_n 0, 1) := by decide +kernel
theorem dX4_takeOldest_29 : decode cX4_takeOldest 29 = .ok (.iload_n 1, 1) := by decide +kernel
theorem dX4_takeOldest_30 : decode cX4_takeOldest 30 = .ok (.iconst 1, 1) := by decide +kernel
theorem dX4_takeOldest_31 : decode cX4_takeOldest 31 = .ok (.iadd, 1) := by decide +kernel
theorem dX4_takeOldest_32 : decode cX4_takeOldest 32 = .ok (.putfield 35, 3) := by decide +kernel
theorem dX4_takeOldest_35 : decode cX4_takeOldest 35 = .ok (.aload_n 0, 1) := by decide +kernel
theorem dX4_takeOldest_36 : decode cX4_takeOldest 36 = .ok (.getfield 13, 3) := by decide +kernel
theorem dX4_takeOldest_39 : decode cX4_takeOldest 39 = .ok (.iload_n 1, 1) := by decide +kernel
theorem dX4_takeOldest_40 : decode cX4_takeOldest 40 = .ok (.aaload, 1) := by decide +kernel
theorem dX4_takeOldest_41 : decode cX4_takeOldest 41 = .ok (.astore_n 2, 1) := by decide +kernel
theorem dX4_takeOldest_42 : decode cX4_takeOldest 42 = .ok (.aload_n 2, 1) := by decide +kernel
theorem dX4_takeOldest_43 : decode cX4_takeOldest 43 = .ok (.ifnonnull 18, 3) := by decide +kernel
theorem dX4_takeOldest_46 : decode cX4_takeOldest 46 = .ok (.new 11, 3) := by decide +kernel
theorem dX4_takeOldest_49 : decode cX4_takeOldest 49 = .ok (.dup, 1) := by decide +kernel
theorem dX4_takeOldest_50 : decode cX4_takeOldest 50 = .ok (.invokespecial 39, 3) := by decide +kernel
theorem dX4_takeOldest_53 : decode cX4_takeOldest 53 = .ok (.astore_n 2, 1) := by decide +kernel
theorem dX4_takeOldest_54 : decode cX4_takeOldest 54 = .ok (.aload_n 0, 1) := by decide +kernel
theorem dX4_takeOldest_55 : decode cX4_takeOldest 55 = .ok (.getfield 13, 3) := by decide +kernel
theorem dX4_takeOldest_58 : decode cX4_takeOldest 58 = .ok (.iload_n 1, 1) := by decide +kernel
theorem dX4_takeOldest_59 : decode cX4_takeOldest 59 = .ok (.aload_n 2, 1) := by decide +kernel
theorem dX4_takeOldest_60 : decode cX4_takeOldest 60 = .ok (.aastore, 1) := by decide +kernel
theorem dX4_takeOldest_61 : decode cX4_takeOldest 61 = .ok (.aload_n 2, 1) := by decide +kernel
theorem dX4_takeOldest_62 : decode cX4_takeOldest 62 = .ok (.areturn, 1) := by decide +kernel
set_option maxRecDepth 20000 in
theorem ggX4_clearSums_J7_fill_53178 : GoodIn wsX4_clearSums wsJ7_fill_53178 := goodIn_r _ [5] (by decide +kernel) (by decide +kernel)
set_option maxRecDepth 20000 in
theorem gX4_clearSums_J7_fill_53178 : GoodIn wsX4_clearSums (va_wsS RX4 40 yJ7_fill_53178 wsJ7_fill_53178) := goodIn_app (goodIn_of _ (by decide +kernel)) ggX4_clearSums_J7_fill_53178
theorem dX4_clearSums_0 : decode cX4_clearSums 0 = .ok (.aload_n 0, 1) := by decide +kernel
theorem dX4_clearSums_1 : decode cX4_clearSums 1 = .ok (.getfield 19, 3) := by decide +kernel
theorem dX4_clearSums_4 : decode cX4_clearSums 4 = .ok (.iconst 0, 1) := by decide +kernel
theorem dX4_clearSums_5 : decode cX4_clearSums 5 = .ok (.invokestatic 40, 3) := by decide +kernel
theorem dX4_clearSums_8 : decode cX4_clearSums 8 = .ok (.return_, 1) := by decide +kernel
set_option maxRecDepth 20000 in
theorem ggX4_addToSums_X7_searchAll : GoodIn wsX4_addToSums wsX7_searchAll := goodIn_r _ [6, 7, 8, 9, 5, 10, 11, 12, 13, 14, 15, 16, 17, 18, 19, 20, 21, 22, 23, 24, 25, 26, 27, 28, 29, 30, 31, 32, 33, 34, 35, 36, 37, 38, 39, 40, 41, 42, 43, 44, 49, 50, 51, 52, 53, 54, 55] (by decide +kernel) (by decide +kernel)
set_option maxRecDepth 20000 in
theorem gX4_addToSums_X7_searchAll : GoodIn wsX4_addToSums (wsV RX4 46 RX7 yX7_searchAll wsX7_searchAll) := goodIn_app (goodIn_of _ (by decide +kernel)) ggX4_addToSums_X7_searchAll
set_option maxRecDepth 20000 in
theorem ggX4_addToSums_X7_known : GoodIn wsX4_addToSums wsX7_known := goodIn_r _ [26, 27, 49, 50, 51, 52, 53, 54, 55] (by decide +kernel) (by decide +kernel)
set_option maxRecDepth 20000 in
theorem gX4_addToSums_X7_known : GoodIn wsX4_addToSums (wsV RX4 49 RX7 yX7_known wsX7_known) := goodIn_app (goodIn_of _ (by decide +kernel)) ggX4_addToSums_X7_known
theorem dX4_addToSums_0 : decode cX4_addToSums 0 = .ok (.aload_n 1, 1) := by decide +kernel
theorem dX4_addToSums_1 : decode cX4_addToSums 1 = .ok (.invokevirtual 46, 3) := by decide +kernel
theorem dX4_addToSums_4 : decode cX4_addToSums 4 = .ok (.iconst 0, 1) := by decide +kernel
theorem dX4_addToSums_5 : decode cX4_addToSums 5 = .ok (.istore_n 2, 1) := by decide +kernel
theorem dX4_addToSums_6 : decode cX4_addToSums 6 = .ok (.iload_n 2, 1) := by decide +kernel
theorem dX4_addToSums_7 : decode cX4_addToSums 7 = .ok (.aload_n 0, 1) := by decide +kernel
theorem dX4_addToSums_8 : decode cX4_addToSums 8 = .ok (.getfield 19, 3) := by decide +kernel
theorem dX4_addToSums_11 : decode cX4_addToSums 11 = .ok (.arraylength, 1) := by decide +kernel
theorem dX4_addToSums_12 : decode cX4_addToSums 12 = .ok (.if_icmp .ge 47, 3) := by decide +kernel
theorem dX4_addToSums_15 : decode cX4_addToSums 15 = .ok (.aload_n 1, 1) := by decide +kernel
theorem dX4_addToSums_16 : decode cX4_addToSums 16 = .ok (.iload_n 2, 1) := by decide +kernel
theorem dX4_addToSums_17 : decode cX4_addToSums 17 = .ok (.invokevirtual 49, 3) := by decide +kernel
theorem dX4_addToSums_20 : decode cX4_addToSums 20 = .ok (.istore_n 3, 1) := by decide +kernel
theorem dX4_addToSums_21 : decode cX4_addToSums 21 = .ok (.aload_n 0, 1) := by decide +kernel
theorem dX4_addToSums_22 : decode cX4_addToSums 22 = .ok (.getfield 19, 3) := by decide +kernel
theorem dX4_addToSums_25 : decode cX4_addToSums 25 = .ok (.iload_n 2, 1) := by decide +kernel
theorem dX4_addToSums_26 : decode cX4_addToSums 26 = .ok (.iload_n 3, 1) := by decide +kernel
theorem dX4_addToSums_27 : decode cX4_addToSums 27 = .ok (.ifCond .lt 12, 3) := by decide +kernel
theorem dX4_addToSums_30 : decode cX4_addToSums 30 = .ok (.aload_n 0, 1) := by decide +kernel
theorem dX4_addToSums_31 : decode cX4_addToSums 31 = .ok (.getfield 19, 3) := by decide +kernel
theorem dX4_addToSums_34 : decode cX4_addToSums 34 = .ok (.iload_n 2, 1) := by decide +kernel
theorem dX4_addToSums_35 : decode cX4_addToSums 35 = .ok (.iaload, 1) := by decide +kernel
theorem dX4_addToSums_36 : decode cX4_addToSums 36 = .ok (.ifCond .ge 8, 3) := by decide +kernel
theorem dX4_addToSums_39 : decode cX4_addToSums 39 = .ok (.bipush (-6), 2) := by decide +kernel
theorem dX4_addToSums_41 : decode cX4_addToSums 41 = .ok (.goto 11, 3) := by decide +kernel
theorem dX4_addToSums_44 : decode cX4_addToSums 44 = .ok (.aload_n 0, 1) := by decide +kernel
theorem dX4_addToSums_45 : decode cX4_addToSums 45 = .ok (.getfield 19, 3) := by decide +kernel
theorem dX4_addToSums_48 : decode cX4_addToSums 48 = .ok (.iload_n 2, 1) := by decide +kernel
theorem dX4_addToSums_49 : decode cX4_addToSums 49 = .ok (.iaload, 1) := by decide +kernel
theorem dX4_addToSums_50 : decode cX4_addToSums 50 = .ok (.iload_n 3, 1) := by decide +kernel
theorem dX4_addToSums_51 : decode cX4_addToSums 51 = .ok (.iadd, 1) := by decide +kernel
theorem dX4_addToSums_52 : decode cX4_addToSums 52 = .ok (.iastore, 1) := by decide +kernel
theorem dX4_addToSums_53 : decode cX4_addToSums 53 = .ok (.iinc 2 1, 3) := by decide +kernel
theorem dX4_addToSums_56 : decode cX4_addToSums 56 = .ok (.goto (-50), 3) := by decide +kernel
theorem dX4_addToSums_59 : decode cX4_addToSums 59 = .ok (.return_, 1) := by decide +kernel
theorem dX4_sumOf_0 : decode cX4_sumOf 0 = .ok (.iload_n 1, 1) := by decide +kernel
theorem dX4_sumOf_1 : decode cX4_sumOf 1 = .ok (.ifCond .lt 21, 3) := by decide +kernel
theorem dX4_sumOf_4 : decode cX4_sumOf 4 = .ok (.iload_n 1, 1) := by decide +kernel
theorem dX4_sumOf_5 : decode cX4_sumOf 5 = .ok (.aload_n 0, 1) := by decide +kernel
theorem dX4_sumOf_6 : decode cX4_sumOf 6 = .ok (.getfield 19, 3) := by decide +kernel
theorem dX4_sumOf_9 : decode cX4_sumOf 9 = .ok (.arraylength, 1) := by decide +kernel
theorem dX4_sumOf_10 : decode cX4_sumOf 10 = .ok (.if_icmp .ge 12, 3) := by decide +kernel
theorem dX4_sumOf_13 : decode cX4_sumOf 13 = .ok (.aload_n 0, 1) := by decide +kernel
theorem dX4_sumOf_14 : decode cX4_sumOf 14 = .ok (.getfield 19, 3) := by decide +kernel
theorem dX4_sumOf_17 : decode cX4_sumOf 17 = .ok (.iload_n 1, 1) := by decide +kernel
theorem dX4_sumOf_18 : decode cX4_sumOf 18 = .ok (.iaload, 1) := by decide +kernel
theorem dX4_sumOf_19 : decode cX4_sumOf 19 = .ok (.goto 5, 3) := by decide +kernel
theorem dX4_sumOf_22 : decode cX4_sumOf 22 = .ok (.bipush (-6), 2) := by decide +kernel
theorem dX4_sumOf_24 : decode cX4_sumOf 24 = .ok (.ireturn, 1) := by decide +kernel
set_option maxRecDepth 20000 in
theorem ggX4_firstOfLeastSum_X1_weight : GoodIn wsX4_firstOfLeastSum wsX1_weight := goodIn_r _ [9, 10] (by decide +kernel) (by decide +kernel)
set_option maxRecDepth 20000 in
theorem gX4_firstOfLeastSum_X1_weight : GoodIn wsX4_firstOfLeastSum (va_wsS RX4 53 yX1_weight wsX1_weight) := goodIn_app (goodIn_of _ (by decide +kernel)) ggX4_firstOfLeastSum_X1_weight
set_option maxRecDepth 20000 in
theorem ggX4_firstOfLeastSum_X4_sumOf : GoodIn wsX4_firstOfLeastSum wsX4_sumOf := goodIn_r _ [15, 5, 16, 17, 18] (by decide +kernel) (by decide +kernel)
set_option maxRecDepth 20000 in
theorem gX4_firstOfLeastSum_X4_sumOf : GoodIn wsX4_firstOfLeastSum (wsV RX4 62 RX4 yX4_sumOf wsX4_sumOf) := goodIn_app (goodIn_of _ (by decide +kernel)) ggX4_firstOfLeastSum_X4_sumOf
theorem dX4_firstOfLeastSum_0 : decode cX4_firstOfLeastSum 0 = .ok (.bipush (-6), 2) := by decide +kernel
theorem dX4_firstOfLeastSum_2 : decode cX4_firstOfLeastSum 2 = .ok (.istore_n 2, 1) := by decide +kernel
theorem dX4_firstOfLeastSum_3 : decode cX4_firstOfLeastSum 3 = .ok (.iconst 1, 1) := by decide +kernel
theorem dX4_firstOfLeastSum_4 : decode cX4_firstOfLeastSum 4 = .ok (.iload_n 1, 1) := by decide +kernel
theorem dX4_firstOfLeastSum_5 : decode cX4_firstOfLeastSum 5 = .ok (.iconst 1, 1) := by decide +kernel
theorem dX4_firstOfLeastSum_6 : decode cX4_firstOfLeastSum 6 = .ok (.isub, 1) := by decide +kernel
theorem dX4_firstOfLeastSum_7 : decode cX4_firstOfLeastSum 7 = .ok (.invokestatic 53, 3) := by decide +kernel
theorem dX4_firstOfLeastSum_10 : decode cX4_firstOfLeastSum 10 = .ok (.invokestatic 56, 3) := by decide +kernel
theorem dX4_firstOfLeastSum_13 : decode cX4_firstOfLeastSum 13 = .ok (.istore_n 3, 1) := by decide +kernel
theorem dX4_firstOfLeastSum_14 : decode cX4_firstOfLeastSum 14 = .ok (.iconst 0, 1) := by decide +kernel
theorem dX4_firstOfLeastSum_15 : decode cX4_firstOfLeastSum 15 = .ok (.istore 4, 2) := by decide +kernel
theorem dX4_firstOfLeastSum_17 : decode cX4_firstOfLeastSum 17 = .ok (.iload 4, 2) := by decide +kernel
theorem dX4_firstOfLeastSum_19 : decode cX4_firstOfLeastSum 19 = .ok (.aload_n 0, 1) := by decide +kernel
theorem dX4_firstOfLeastSum_20 : decode cX4_firstOfLeastSum 20 = .ok (.getfield 19, 3) := by decide +kernel
theorem dX4_firstOfLeastSum_23 : decode cX4_firstOfLeastSum 23 = .ok (.arraylength, 1) := by decide +kernel
theorem dX4_firstOfLeastSum_24 : decode cX4_firstOfLeastSum 24 = .ok (.if_icmp .ge 44, 3) := by decide +kernel
theorem dX4_firstOfLeastSum_27 : decode cX4_firstOfLeastSum 27 = .ok (.aload_n 0, 1) := by decide +kernel
theorem dX4_firstOfLeastSum_28 : decode cX4_firstOfLeastSum 28 = .ok (.getfield 19, 3) := by decide +kernel
theorem dX4_firstOfLeastSum_31 : decode cX4_firstOfLeastSum 31 = .ok (.iload 4, 2) := by decide +kernel
theorem dX4_firstOfLeastSum_33 : decode cX4_firstOfLeastSum 33 = .ok (.iaload, 1) := by decide +kernel
theorem dX4_firstOfLeastSum_34 : decode cX4_firstOfLeastSum 34 = .ok (.ifCond .lt 25, 3) := by decide +kernel
theorem dX4_firstOfLeastSum_37 : decode cX4_firstOfLeastSum 37 = .ok (.iload_n 2, 1) := by decide +kernel
theorem dX4_firstOfLeastSum_38 : decode cX4_firstOfLeastSum 38 = .ok (.ifCond .lt 18, 3) := by decide +kernel
theorem dX4_firstOfLeastSum_41 : decode cX4_firstOfLeastSum 41 = .ok (.aload_n 0, 1) := by decide +kernel
theorem dX4_firstOfLeastSum_42 : decode cX4_firstOfLeastSum 42 = .ok (.getfield 19, 3) := by decide +kernel
theorem dX4_firstOfLeastSum_45 : decode cX4_firstOfLeastSum 45 = .ok (.iload 4, 2) := by decide +kernel
theorem dX4_firstOfLeastSum_47 : decode cX4_firstOfLeastSum 47 = .ok (.iaload, 1) := by decide +kernel
theorem dX4_firstOfLeastSum_48 : decode cX4_firstOfLeastSum 48 = .ok (.aload_n 0, 1) := by decide +kernel
theorem dX4_firstOfLeastSum_49 : decode cX4_firstOfLeastSum 49 = .ok (.iload_n 2, 1) := by decide +kernel
theorem dX4_firstOfLeastSum_50 : decode cX4_firstOfLeastSum 50 = .ok (.invokevirtual 62, 3) := by decide +kernel
theorem dX4_firstOfLeastSum_53 : decode cX4_firstOfLeastSum 53 = .ok (.if_icmp .ge 6, 3) := by decide +kernel
theorem dX4_firstOfLeastSum_56 : decode cX4_firstOfLeastSum 56 = .ok (.iload 4, 2) := by decide +kernel
theorem dX4_firstOfLeastSum_58 : decode cX4_firstOfLeastSum 58 = .ok (.istore_n 2, 1) := by decide +kernel
theorem dX4_firstOfLeastSum_59 : decode cX4_firstOfLeastSum 59 = .ok (.iload 4, 2) := by decide +kernel
theorem dX4_firstOfLeastSum_61 : decode cX4_firstOfLeastSum 61 = .ok (.iload_n 3, 1) := by decide +kernel
theorem dX4_firstOfLeastSum_62 : decode cX4_firstOfLeastSum 62 = .ok (.iadd, 1) := by decide +kernel
theorem dX4_firstOfLeastSum_63 : decode cX4_firstOfLeastSum 63 = .ok (.istore 4, 2) := by decide +kernel
theorem dX4_firstOfLeastSum_65 : decode cX4_firstOfLeastSum 65 = .ok (.goto (-48), 3) := by decide +kernel
theorem dX4_firstOfLeastSum_68 : decode cX4_firstOfLeastSum 68 = .ok (.iload_n 2, 1) := by decide +kernel
theorem dX4_firstOfLeastSum_69 : decode cX4_firstOfLeastSum 69 = .ok (.ireturn, 1) := by decide +kernel
theorem dX5_written_0 : decode cX5_written 0 = .ok (.iload_n 0, 1) := by decide +kernel
theorem dX5_written_1 : decode cX5_written 1 = .ok (.ifCond .lt 19, 3) := by decide +kernel
theorem dX5_written_4 : decode cX5_written 4 = .ok (.iload_n 0, 1) := by decide +kernel
theorem dX5_written_5 : decode cX5_written 5 = .ok (.getstatic 7, 3) := by decide +kernel
theorem dX5_written_8 : decode cX5_written 8 = .ok (.arraylength, 1) := by decide +kernel
theorem dX5_written_9 : decode cX5_written 9 = .ok (.if_icmp .ge 11, 3) := by decide +kernel
theorem dX5_written_12 : decode cX5_written 12 = .ok (.getstatic 7, 3) := by decide +kernel
theorem dX5_written_15 : decode cX5_written 15 = .ok (.iload_n 0, 1) := by decide +kernel
theorem dX5_written_16 : decode cX5_written 16 = .ok (.iaload, 1) := by decide +kernel
theorem dX5_written_17 : decode cX5_written 17 = .ok (.goto 4, 3) := by decide +kernel
theorem dX5_written_20 : decode cX5_written 20 = .ok (.iconst 0, 1) := by decide +kernel
theorem dX5_written_21 : decode cX5_written 21 = .ok (.ireturn, 1) := by decide +kernel
theorem dX5_number_0 : decode cX5_number 0 = .ok (.iconst 0, 1) := by decide +kernel
theorem dX5_number_1 : decode cX5_number 1 = .ok (.istore_n 1, 1) := by decide +kernel
theorem dX5_number_2 : decode cX5_number 2 = .ok (.iload_n 1, 1) := by decide +kernel
theorem dX5_number_3 : decode cX5_number 3 = .ok (.getstatic 7, 3) := by decide +kernel
theorem dX5_number_6 : decode cX5_number 6 = .ok (.arraylength, 1) := by decide +kernel
theorem dX5_number_7 : decode cX5_number 7 = .ok (.if_icmp .ge 20, 3) := by decide +kernel
theorem dX5_number_10 : decode cX5_number 10 = .ok (.getstatic 7, 3) := by decide +kernel
theorem dX5_number_13 : decode cX5_number 13 = .ok (.iload_n 1, 1) := by decide +kernel
theorem dX5_number_14 : decode cX5_number 14 = .ok (.iaload, 1) := by decide +kernel
theorem dX5_number_15 : decode cX5_number 15 = .ok (.iload_n 0, 1) := by decide +kernel
theorem dX5_number_16 : decode cX5_number 16 = .ok (.if_icmp .ne 5, 3) := by decide +kernel
theorem dX5_number_19 : decode cX5_number 19 = .ok (.iload_n 1, 1) := by decide +kernel
theorem dX5_number_20 : decode cX5_number 20 = .ok (.ireturn, 1) := by decide +kernel
theorem dX5_number_21 : decode cX5_number 21 = .ok (.iinc 1 1, 3) := by decide +kernel
theorem dX5_number_24 : decode cX5_number 24 = .ok (.goto (-22), 3) := by decide +kernel
theorem dX5_number_27 : decode cX5_number 27 = .ok (.iconst (-1), 1) := by decide +kernel
theorem dX5_number_28 : decode cX5_number 28 = .ok (.ireturn, 1) := by decide +kernel
theorem dX6_inOrder_0 : decode cX6_inOrder 0 = .ok (.iload_n 0, 1) := by decide +kernel
theorem dX6_inOrder_1 : decode cX6_inOrder 1 = .ok (.ifCond .lt 19, 3) := by decide +kernel
theorem dX6_inOrder_4 : decode cX6_inOrder 4 = .ok (.iload_n 0, 1) := by decide +kernel
theorem dX6_inOrder_5 : decode cX6_inOrder 5 = .ok (.getstatic 9, 3) := by decide +kernel
theorem dX6_inOrder_8 : decode cX6_inOrder 8 = .ok (.arraylength, 1) := by decide +kernel
theorem dX6_inOrder_9 : decode cX6_inOrder 9 = .ok (.if_icmp .ge 11, 3) := by decide +kernel
theorem dX6_inOrder_12 : decode cX6_inOrder 12 = .ok (.getstatic 9, 3) := by decide +kernel
theorem dX6_inOrder_15 : decode cX6_inOrder 15 = .ok (.iload_n 0, 1) := by decide +kernel
theorem dX6_inOrder_16 : decode cX6_inOrder 16 = .ok (.iaload, 1) := by decide +kernel
theorem dX6_inOrder_17 : decode cX6_inOrder 17 = .ok (.goto 5, 3) := by decide +kernel
theorem dX6_inOrder_20 : decode cX6_inOrder 20 = .ok (.bipush (-6), 2) := by decide +kernel
theorem dX6_inOrder_22 : decode cX6_inOrder 22 = .ok (.ireturn, 1) := by decide +kernel
theorem dX6_number_0 : decode cX6_number 0 = .ok (.bipush 100, 2) := by decide +kernel
theorem dX6_number_2 : decode cX6_number 2 = .ok (.iload_n 0, 1) := by decide +kernel
theorem dX6_number_3 : decode cX6_number 3 = .ok (.imul, 1) := by decide +kernel
theorem dX6_number_4 : decode cX6_number 4 = .ok (.bipush 10, 2) := by decide +kernel
theorem dX6_number_6 : decode cX6_number 6 = .ok (.iload_n 1, 1) := by decide +kernel
theorem dX6_number_7 : decode cX6_number 7 = .ok (.imul, 1) := by decide +kernel
theorem dX6_number_8 : decode cX6_number 8 = .ok (.iadd, 1) := by decide +kernel
theorem dX6_number_9 : decode cX6_number 9 = .ok (.iload_n 2, 1) := by decide +kernel
theorem dX6_number_10 : decode cX6_number 10 = .ok (.iadd, 1) := by decide +kernel
theorem dX6_number_11 : decode cX6_number 11 = .ok (.ireturn, 1) := by decide +kernel
theorem dX6_sitesFor_0 : decode cX6_sitesFor 0 = .ok (.iload_n 0, 1) := by decide +kernel
theorem dX6_sitesFor_1 : decode cX6_sitesFor 1 = .ok (.iconst 1, 1) := by decide +kernel
theorem dX6_sitesFor_2 : decode cX6_sitesFor 2 = .ok (.if_icmp .eq 8, 3) := by decide +kernel
theorem dX6_sitesFor_5 : decode cX6_sitesFor 5 = .ok (.iload_n 0, 1) := by decide +kernel
theorem dX6_sitesFor_6 : decode cX6_sitesFor 6 = .ok (.iconst 2, 1) := by decide +kernel
theorem dX6_sitesFor_7 : decode cX6_sitesFor 7 = .ok (.if_icmp .ne 9, 3) := by decide +kernel
theorem dX6_sitesFor_10 : decode cX6_sitesFor 10 = .ok (.iload_n 1, 1) := by decide +kernel
theorem dX6_sitesFor_11 : decode cX6_sitesFor 11 = .ok (.iconst 1, 1) := by decide +kernel
theorem dX6_sitesFor_12 : decode cX6_sitesFor 12 = .ok (.isub, 1) := by decide +kernel
theorem dX6_sitesFor_13 : decode cX6_sitesFor 13 = .ok (.goto 4, 3) := by decide +kernel
theorem dX6_sitesFor_16 : decode cX6_sitesFor 16 = .ok (.iload_n 1, 1) := by decide +kernel
theorem dX6_sitesFor_17 : decode cX6_sitesFor 17 = .ok (.ireturn, 1) := by decide +kernel
set_option maxRecDepth 20000 in
theorem ggX6_isMade_X6_sitesFor : GoodIn wsX6_isMade wsX6_sitesFor := goodIn_r _ [4] (by decide +kernel) (by decide +kernel)
set_option maxRecDepth 20000 in
theorem gX6_isMade_X6_sitesFor : GoodIn wsX6_isMade (va_wsS RX6 15 yX6_sitesFor wsX6_sitesFor) := goodIn_app (goodIn_of _ (by decide +kernel)) ggX6_isMade_X6_sitesFor
theorem dX6_isMade_0 : decode cX6_isMade 0 = .ok (.iload_n 0, 1) := by decide +kernel
theorem dX6_isMade_1 : decode cX6_isMade 1 = .ok (.bipush 100, 2) := by decide +kernel
theorem dX6_isMade_3 : decode cX6_isMade 3 = .ok (.idiv, 1) := by decide +kernel
theorem dX6_isMade_4 : decode cX6_isMade 4 = .ok (.istore_n 3, 1) := by decide +kernel
theorem dX6_isMade_5 : decode cX6_isMade 5 = .ok (.iload_n 0, 1) := by decide +kernel
theorem dX6_isMade_6 : decode cX6_isMade 6 = .ok (.ifCond .lt 30, 3) := by decide +kernel
theorem dX6_isMade_9 : decode cX6_isMade 9 = .ok (.iload_n 1, 1) := by decide +kernel
theorem dX6_isMade_10 : decode cX6_isMade 10 = .ok (.iload_n 3, 1) := by decide +kernel
theorem dX6_isMade_11 : decode cX6_isMade 11 = .ok (.ishr, 1) := by decide +kernel
theorem dX6_isMade_12 : decode cX6_isMade 12 = .ok (.iconst 1, 1) := by decide +kernel
theorem dX6_isMade_13 : decode cX6_isMade 13 = .ok (.iand, 1) := by decide +kernel
theorem dX6_isMade_14 : decode cX6_isMade 14 = .ok (.ifCond .eq 22, 3) := by decide +kernel
theorem dX6_isMade_17 : decode cX6_isMade 17 = .ok (.iload_n 0, 1) := by decide +kernel
theorem dX6_isMade_18 : decode cX6_isMade 18 = .ok (.bipush 10, 2) := by decide +kernel
theorem dX6_isMade_20 : decode cX6_isMade 20 = .ok (.idiv, 1) := by decide +kernel
theorem dX6_isMade_21 : decode cX6_isMade 21 = .ok (.bipush 10, 2) := by decide +kernel
theorem dX6_isMade_23 : decode cX6_isMade 23 = .ok (.irem, 1) := by decide +kernel
theorem dX6_isMade_24 : decode cX6_isMade 24 = .ok (.iload_n 3, 1) := by decide +kernel
theorem dX6_isMade_25 : decode cX6_isMade 25 = .ok (.iload_n 2, 1) := by decide +kernel
theorem dX6_isMade_26 : decode cX6_isMade 26 = .ok (.invokestatic 15, 3) := by decide +kernel
theorem dX6_isMade_29 : decode cX6_isMade 29 = .ok (.if_icmp .ge 7, 3) := by decide +kernel
theorem dX6_isMade_32 : decode cX6_isMade 32 = .ok (.iconst 1, 1) := by decide +kernel
theorem dX6_isMade_33 : decode cX6_isMade 33 = .ok (.goto 4, 3) := by decide +kernel
theorem dX6_isMade_36 : decode cX6_isMade 36 = .ok (.iconst 0, 1) := by decide +kernel
theorem dX6_isMade_37 : decode cX6_isMade 37 = .ok (.ireturn, 1) := by decide +kernel
set_option maxRecDepth 20000 in
theorem ggX6_after_X1_signAt : GoodIn wsX6_after wsX1_signAt := goodIn_r _ [4, 5, 6, 3, 7, 8, 9, 10, 11] (by decide +kernel) (by decide +kernel)
set_option maxRecDepth 20000 in
theorem gX6_after_X1_signAt : GoodIn wsX6_after (va_wsS RX6 19 yX1_signAt wsX1_signAt) := goodIn_app (goodIn_of _ (by decide +kernel)) ggX6_after_X1_signAt
set_option maxRecDepth 20000 in
theorem ggX6_after_X1_with : GoodIn wsX6_after wsX1_with := goodIn_r _ [14, 15, 2, 3, 4, 5, 6, 7, 8, 9, 10, 11] (by decide +kernel) (by decide +kernel)
set_option maxRecDepth 20000 in
theorem gX6_after_X1_with : GoodIn wsX6_after (va_wsS RX6 24 yX1_with wsX1_with) := goodIn_app (goodIn_of _ (by decide +kernel)) ggX6_after_X1_with
theorem dX6_after_0 : decode cX6_after 0 = .ok (.iload_n 1, 1) := by decide +kernel
theorem dX6_after_1 : decode cX6_after 1 = .ok (.ifCond .ge 5, 3) := by decide +kernel
theorem dX6_after_4 : decode cX6_after 4 = .ok (.iload_n 0, 1) := by decide +kernel
theorem dX6_after_5 : decode cX6_after 5 = .ok (.ireturn, 1) := by decide +kernel
theorem dX6_after_6 : decode cX6_after 6 = .ok (.iload_n 1, 1) := by decide +kernel
theorem dX6_after_7 : decode cX6_after 7 = .ok (.bipush 10, 2) := by decide +kernel
theorem dX6_after_9 : decode cX6_after 9 = .ok (.idiv, 1) := by decide +kernel
theorem dX6_after_10 : decode cX6_after 10 = .ok (.bipush 10, 2) := by decide +kernel
theorem dX6_after_12 : decode cX6_after 12 = .ok (.irem, 1) := by decide +kernel
theorem dX6_after_13 : decode cX6_after 13 = .ok (.istore_n 2, 1) := by decide +kernel
theorem dX6_after_14 : decode cX6_after 14 = .ok (.iload_n 0, 1) := by decide +kernel
theorem dX6_after_15 : decode cX6_after 15 = .ok (.iload_n 2, 1) := by decide +kernel
theorem dX6_after_16 : decode cX6_after 16 = .ok (.invokestatic 19, 3) := by decide +kernel
theorem dX6_after_19 : decode cX6_after 19 = .ok (.istore_n 3, 1) := by decide +kernel
theorem dX6_after_20 : decode cX6_after 20 = .ok (.iload_n 1, 1) := by decide +kernel
theorem dX6_after_21 : decode cX6_after 21 = .ok (.bipush 100, 2) := by decide +kernel
theorem dX6_after_23 : decode cX6_after 23 = .ok (.idiv, 1) := by decide +kernel
theorem dX6_after_24 : decode cX6_after 24 = .ok (.tableswitch 78 0 3 #[32, 42, 62, 71], 32) := by decide +kernel
theorem dX6_after_56 : decode cX6_after 56 = .ok (.iload_n 0, 1) := by decide +kernel
theorem dX6_after_57 : decode cX6_after 57 = .ok (.iload_n 2, 1) := by decide +kernel
theorem dX6_after_58 : decode cX6_after 58 = .ok (.iload_n 1, 1) := by decide +kernel
theorem dX6_after_59 : decode cX6_after 59 = .ok (.bipush 10, 2) := by decide +kernel
theorem dX6_after_61 : decode cX6_after 61 = .ok (.irem, 1) := by decide +kernel
theorem dX6_after_62 : decode cX6_after 62 = .ok (.invokestatic 24, 3) := by decide +kernel
theorem dX6_after_65 : decode cX6_after 65 = .ok (.ireturn, 1) := by decide +kernel
theorem dX6_after_66 : decode cX6_after 66 = .ok (.iload_n 0, 1) := by decide +kernel
theorem dX6_after_67 : decode cX6_after 67 = .ok (.iload_n 2, 1) := by decide +kernel
theorem dX6_after_68 : decode cX6_after 68 = .ok (.iload_n 0, 1) := by decide +kernel
theorem dX6_after_69 : decode cX6_after 69 = .ok (.iload_n 2, 1) := by decide +kernel
theorem dX6_after_70 : decode cX6_after 70 = .ok (.iconst 1, 1) := by decide +kernel
theorem dX6_after_71 : decode cX6_after 71 = .ok (.iadd, 1) := by decide +kernel
theorem dX6_after_72 : decode cX6_after 72 = .ok (.invokestatic 19, 3) := by decide +kernel
theorem dX6_after_75 : decode cX6_after 75 = .ok (.invokestatic 24, 3) := by decide +kernel
theorem dX6_after_78 : decode cX6_after 78 = .ok (.iload_n 2, 1) := by decide +kernel
theorem dX6_after_79 : decode cX6_after 79 = .ok (.iconst 1, 1) := by decide +kernel
theorem dX6_after_80 : decode cX6_after 80 = .ok (.iadd, 1) := by decide +kernel
theorem dX6_after_81 : decode cX6_after 81 = .ok (.iload_n 3, 1) := by decide +kernel
theorem dX6_after_82 : decode cX6_after 82 = .ok (.invokestatic 24, 3) := by decide +kernel
theorem dX6_after_85 : decode cX6_after 85 = .ok (.ireturn, 1) := by decide +kernel
theorem dX6_after_86 : decode cX6_after 86 = .ok (.iload_n 0, 1) := by decide +kernel
theorem dX6_after_87 : decode cX6_after 87 = .ok (.iload_n 2, 1) := by decide +kernel
theorem dX6_after_88 : decode cX6_after 88 = .ok (.iconst 1, 1) := by decide +kernel
theorem dX6_after_89 : decode cX6_after 89 = .ok (.iadd, 1) := by decide +kernel
theorem dX6_after_90 : decode cX6_after 90 = .ok (.iload_n 3, 1) := by decide +kernel
theorem dX6_after_91 : decode cX6_after 91 = .ok (.invokestatic 24, 3) := by decide +kernel
theorem dX6_after_94 : decode cX6_after 94 = .ok (.ireturn, 1) := by decide +kernel
theorem dX6_after_95 : decode cX6_after 95 = .ok (.iload_n 0, 1) := by decide +kernel
theorem dX6_after_96 : decode cX6_after 96 = .ok (.iload_n 2, 1) := by decide +kernel
theorem dX6_after_97 : decode cX6_after 97 = .ok (.iconst 4, 1) := by decide +kernel
theorem dX6_after_98 : decode cX6_after 98 = .ok (.invokestatic 24, 3) := by decide +kernel
theorem dX6_after_101 : decode cX6_after 101 = .ok (.ireturn, 1) := by decide +kernel
theorem dX6_after_102 : decode cX6_after 102 = .ok (.iload_n 0, 1) := by decide +kernel
theorem dX6_after_103 : decode cX6_after 103 = .ok (.ireturn, 1) := by decide +kernel
theorem dX7_init_0 : decode cX7_init 0 = .ok (.aload_n 0, 1) := by decide +kernel
theorem dX7_init_1 : decode cX7_init 1 = .ok (.invokespecial 3, 3) := by decide +kernel
theorem dX7_init_4 : decode cX7_init 4 = .ok (.aload_n 0, 1) := by decide +kernel
theorem dX7_init_5 : decode cX7_init 5 = .ok (.sipush 15625, 3) := by decide +kernel
theorem dX7_init_8 : decode cX7_init 8 = .ok (.newarray .byte, 2) := by decide +kernel
theorem dX7_init_10 : decode cX7_init 10 = .ok (.putfield 11, 3) := by decide +kernel
theorem dX7_init_13 : decode cX7_init 13 = .ok (.aload_n 0, 1) := by decide +kernel
theorem dX7_init_14 : decode cX7_init 14 = .ok (.sipush 15625, 3) := by decide +kernel
theorem dX7_init_17 : decode cX7_init 17 = .ok (.newarray .int, 2) := by decide +kernel
theorem dX7_init_19 : decode cX7_init 19 = .ok (.putfield 17, 3) := by decide +kernel
theorem dX7_init_22 : decode cX7_init 22 = .ok (.return_, 1) := by decide +kernel
theorem dX7_isFor_0 : decode cX7_isFor 0 = .ok (.aload_n 0, 1) := by decide +kernel
theorem dX7_isFor_1 : decode cX7_isFor 1 = .ok (.getfield 21, 3) := by decide +kernel
theorem dX7_isFor_4 : decode cX7_isFor 4 = .ok (.iload_n 1, 1) := by decide +kernel
theorem dX7_isFor_5 : decode cX7_isFor 5 = .ok (.if_icmp .ne 23, 3) := by decide +kernel
theorem dX7_isFor_8 : decode cX7_isFor 8 = .ok (.aload_n 0, 1) := by decide +kernel
theorem dX7_isFor_9 : decode cX7_isFor 9 = .ok (.getfield 25, 3) := by decide +kernel
theorem dX7_isFor_12 : decode cX7_isFor 12 = .ok (.iload_n 2, 1) := by decide +kernel
theorem dX7_isFor_13 : decode cX7_isFor 13 = .ok (.if_icmp .ne 15, 3) := by decide +kernel
theorem dX7_isFor_16 : decode cX7_isFor 16 = .ok (.aload_n 0, 1) := by decide +kernel
theorem dX7_isFor_17 : decode cX7_isFor 17 = .ok (.getfield 28, 3) := by decide +kernel
theorem dX7_isFor_20 : decode cX7_isFor 20 = .ok (.iload_n 3, 1) := by decide +kernel
theorem dX7_isFor_21 : decode cX7_isFor 21 = .ok (.if_icmp .ne 7, 3) := by decide +kernel
theorem dX7_isFor_24 : decode cX7_isFor 24 = .ok (.iconst 1, 1) := by decide +kernel
theorem dX7_isFor_25 : decode cX7_isFor 25 = .ok (.goto 4, 3) := by decide +kernel
theorem dX7_isFor_28 : decode cX7_isFor 28 = .ok (.iconst 0, 1) := by decide +kernel
theorem dX7_isFor_29 : decode cX7_isFor 29 = .ok (.ireturn, 1) := by decide +kernel
set_option maxRecDepth 20000 in
theorem ggX7_begin_J7_fill_031fb : GoodIn wsX7_begin wsJ7_fill_031fb := goodIn_r _ [10] (by decide +kernel) (by decide +kernel)
set_option maxRecDepth 20000 in
theorem gX7_begin_J7_fill_031fb : GoodIn wsX7_begin (va_wsS RX7 37 yJ7_fill_031fb wsJ7_fill_031fb) := goodIn_app (goodIn_of _ (by decide +kernel)) ggX7_begin_J7_fill_031fb
set_option maxRecDepth 20000 in
theorem ggX7_begin_X7_queueGoal : GoodIn wsX7_begin wsX7_queueGoal := goodIn_r _ [15, 3, 1, 16, 17, 18, 14, 19, 6, 4, 20, 21, 22, 23, 24, 25, 26, 27, 28, 29, 11, 12, 13, 30, 31, 32, 33, 34, 35, 36] (by decide +kernel) (by decide +kernel)
set_option maxRecDepth 20000 in
theorem gX7_begin_X7_queueGoal : GoodIn wsX7_begin (wsV RX7 43 RX7 yX7_queueGoal wsX7_queueGoal) := goodIn_app (goodIn_of _ (by decide +kernel)) ggX7_begin_X7_queueGoal
theorem dX7_begin_0 : decode cX7_begin 0 = .ok (.aload_n 0, 1) := by decide +kernel
theorem dX7_begin_1 : decode cX7_begin 1 = .ok (.iload_n 1, 1) := by decide +kernel
theorem dX7_begin_2 : decode cX7_begin 2 = .ok (.putfield 21, 3) := by decide +kernel
theorem dX7_begin_5 : decode cX7_begin 5 = .ok (.aload_n 0, 1) := by decide +kernel
theorem dX7_begin_6 : decode cX7_begin 6 = .ok (.iload_n 2, 1) := by decide +kernel
theorem dX7_begin_7 : decode cX7_begin 7 = .ok (.putfield 25, 3) := by decide +kernel
theorem dX7_begin_10 : decode cX7_begin 10 = .ok (.aload_n 0, 1) := by decide +kernel
theorem dX7_begin_11 : decode cX7_begin 11 = .ok (.iload_n 3, 1) := by decide +kernel
theorem dX7_begin_12 : decode cX7_begin 12 = .ok (.putfield 28, 3) := by decide +kernel
theorem dX7_begin_15 : decode cX7_begin 15 = .ok (.aload_n 0, 1) := by decide +kernel
theorem dX7_begin_16 : decode cX7_begin 16 = .ok (.iconst 0, 1) := by decide +kernel
theorem dX7_begin_17 : decode cX7_begin 17 = .ok (.putfield 31, 3) := by decide +kernel
theorem dX7_begin_20 : decode cX7_begin 20 = .ok (.aload_n 0, 1) := by decide +kernel
theorem dX7_begin_21 : decode cX7_begin 21 = .ok (.iconst 0, 1) := by decide +kernel
theorem dX7_begin_22 : decode cX7_begin 22 = .ok (.putfield 34, 3) := by decide +kernel
theorem dX7_begin_25 : decode cX7_begin 25 = .ok (.aload_n 0, 1) := by decide +kernel
theorem dX7_begin_26 : decode cX7_begin 26 = .ok (.getfield 11, 3) := by decide +kernel
theorem dX7_begin_29 : decode cX7_begin 29 = .ok (.bipush (-6), 2) := by decide +kernel
theorem dX7_begin_31 : decode cX7_begin 31 = .ok (.invokestatic 37, 3) := by decide +kernel
theorem dX7_begin_34 : decode cX7_begin 34 = .ok (.aload_n 0, 1) := by decide +kernel
theorem dX7_begin_35 : decode cX7_begin 35 = .ok (.iconst 0, 1) := by decide +kernel
theorem dX7_begin_36 : decode cX7_begin 36 = .ok (.iconst 0, 1) := by decide +kernel
theorem dX7_begin_37 : decode cX7_begin 37 = .ok (.invokevirtual 43, 3) := by decide +kernel
theorem dX7_begin_40 : decode cX7_begin 40 = .ok (.return_, 1) := by decide +kernel
set_option maxRecDepth 20000 in
theorem ggX7_slipsFrom_X7_searchFor : GoodIn wsX7_slipsFrom wsX7_searchFor := goodIn_r _ [5, 6, 7, 8, 9, 10, 11, 12, 13, 14, 15, 16, 17, 18, 19, 20, 4, 21, 22, 23, 24, 25, 26, 27, 28, 29, 30, 31, 32, 33, 34, 35, 36, 37, 38, 39, 40, 41, 42, 43, 44, 45, 46] (by decide +kernel) (by decide +kernel)
set_option maxRecDepth 20000 in
theorem gX7_slipsFrom_X7_searchFor : GoodIn wsX7_slipsFrom (wsV RX7 47 RX7 yX7_searchFor wsX7_searchFor) := goodIn_app (goodIn_of _ (by decide +kernel)) ggX7_slipsFrom_X7_searchFor
set_option maxRecDepth 20000 in
theorem ggX7_slipsFrom_X7_known : GoodIn wsX7_slipsFrom wsX7_known := goodIn_r _ [21, 22, 40, 41, 42, 43, 44, 45, 46] (by decide +kernel) (by decide +kernel)
set_option maxRecDepth 20000 in
theorem gX7_slipsFrom_X7_known : GoodIn wsX7_slipsFrom (wsV RX7 51 RX7 yX7_known wsX7_known) := goodIn_app (goodIn_of _ (by decide +kernel)) ggX7_slipsFrom_X7_known
theorem dX7_slipsFrom_0 : decode cX7_slipsFrom 0 = .ok (.aload_n 0, 1) := by decide +kernel
theorem dX7_slipsFrom_1 : decode cX7_slipsFrom 1 = .ok (.iload_n 1, 1) := by decide +kernel
theorem dX7_slipsFrom_2 : decode cX7_slipsFrom 2 = .ok (.invokevirtual 47, 3) := by decide +kernel
theorem dX7_slipsFrom_5 : decode cX7_slipsFrom 5 = .ok (.aload_n 0, 1) := by decide +kernel
theorem dX7_slipsFrom_6 : decode cX7_slipsFrom 6 = .ok (.iload_n 1, 1) := by decide +kernel
theorem dX7_slipsFrom_7 : decode cX7_slipsFrom 7 = .ok (.invokevirtual 51, 3) := by decide +kernel
theorem dX7_slipsFrom_10 : decode cX7_slipsFrom 10 = .ok (.ireturn, 1) := by decide +kernel
theorem dX7_known_0 : decode cX7_known 0 = .ok (.iload_n 1, 1) := by decide +kernel
theorem dX7_known_1 : decode cX7_known 1 = .ok (.ifCond .lt 21, 3) := by decide +kernel
theorem dX7_known_4 : decode cX7_known 4 = .ok (.iload_n 1, 1) := by decide +kernel
theorem dX7_known_5 : decode cX7_known 5 = .ok (.aload_n 0, 1) := by decide +kernel
theorem dX7_known_6 : decode cX7_known 6 = .ok (.getfield 11, 3) := by decide +kernel
theorem dX7_known_9 : decode cX7_known 9 = .ok (.arraylength, 1) := by decide +kernel
theorem dX7_known_10 : decode cX7_known 10 = .ok (.if_icmp .ge 12, 3) := by decide +kernel
theorem dX7_known_13 : decode cX7_known 13 = .ok (.aload_n 0, 1) := by decide +kernel
theorem dX7_known_14 : decode cX7_known 14 = .ok (.getfield 11, 3) := by decide +kernel
theorem dX7_known_17 : decode cX7_known 17 = .ok (.iload_n 1, 1) := by decide +kernel
theorem dX7_known_18 : decode cX7_known 18 = .ok (.baload, 1) := by decide +kernel
theorem dX7_known_19 : decode cX7_known 19 = .ok (.goto 5, 3) := by decide +kernel
theorem dX7_known_22 : decode cX7_known 22 = .ok (.bipush (-6), 2) := by decide +kernel
theorem dX7_known_24 : decode cX7_known 24 = .ok (.ireturn, 1) := by decide +kernel
set_option maxRecDepth 20000 in
theorem ggX7_searchAll_X7_searchFor : GoodIn wsX7_searchAll wsX7_searchFor := goodIn_r _ [5, 6, 7, 8, 9, 10, 11, 12, 13, 14, 15, 16, 17, 18, 19, 20, 4, 21, 22, 23, 24, 25, 26, 27, 28, 29, 30, 31, 32, 33, 34, 35, 36, 37, 38, 39, 40, 41, 42, 43, 44, 45, 46] (by decide +kernel) (by decide +kernel)
set_option maxRecDepth 20000 in
theorem gX7_searchAll_X7_searchFor : GoodIn wsX7_searchAll (wsV RX7 47 RX7 yX7_searchFor wsX7_searchFor) := goodIn_app (goodIn_of _ (by decide +kernel)) ggX7_searchAll_X7_searchFor
theorem dX7_searchAll_0 : decode cX7_searchAll 0 = .ok (.aload_n 0, 1) := by decide +kernel
theorem dX7_searchAll_1 : decode cX7_searchAll 1 = .ok (.iconst (-1), 1) := by decide +kernel
theorem dX7_searchAll_2 : decode cX7_searchAll 2 = .ok (.invokevirtual 47, 3) := by decide +kernel
theorem dX7_searchAll_5 : decode cX7_searchAll 5 = .ok (.return_, 1) := by decide +kernel
set_option maxRecDepth 20000 in
theorem ggX7_searchFor_X1_countOf : GoodIn wsX7_searchFor wsX1_countOf := goodIn_r _ [8, 9, 10, 7, 11, 12] (by decide +kernel) (by decide +kernel)
set_option maxRecDepth 20000 in
theorem gX7_searchFor_X1_countOf : GoodIn wsX7_searchFor (va_wsS RX7 55 yX1_countOf wsX1_countOf) := goodIn_app (goodIn_of _ (by decide +kernel)) ggX7_searchFor_X1_countOf
set_option maxRecDepth 20000 in
theorem ggX7_searchFor_X7_known : GoodIn wsX7_searchFor wsX7_known := goodIn_r _ [17, 18, 36, 37, 38, 39, 40, 41, 42] (by decide +kernel) (by decide +kernel)
set_option maxRecDepth 20000 in
theorem gX7_searchFor_X7_known : GoodIn wsX7_searchFor (wsV RX7 51 RX7 yX7_known wsX7_known) := goodIn_app (goodIn_of _ (by decide +kernel)) ggX7_searchFor_X7_known
set_option maxRecDepth 20000 in
theorem ggX7_searchFor_X7_queueBefore : GoodIn wsX7_searchFor wsX7_queueBefore := goodIn_r _ [22, 1, 23, 13, 14, 15, 16, 17, 18, 24, 10, 7, 11, 12, 25, 26, 27, 28, 29, 30, 31, 32, 33, 34, 35, 2, 4, 36, 37, 38, 39, 40, 41, 42] (by decide +kernel) (by decide +kernel)
set_option maxRecDepth 20000 in
theorem gX7_searchFor_X7_queueBefore : GoodIn wsX7_searchFor (wsV RX7 58 RX7 yX7_queueBefore wsX7_queueBefore) := goodIn_app (goodIn_of _ (by decide +kernel)) ggX7_searchFor_X7_queueBefore
theorem dX7_searchFor_0 : decode cX7_searchFor 0 = .ok (.aload_n 0, 1) := by decide +kernel
theorem dX7_searchFor_1 : decode cX7_searchFor 1 = .ok (.getfield 28, 3) := by decide +kernel
theorem dX7_searchFor_4 : decode cX7_searchFor 4 = .ok (.invokestatic 55, 3) := by decide +kernel
theorem dX7_searchFor_7 : decode cX7_searchFor 7 = .ok (.istore_n 2, 1) := by decide +kernel
theorem dX7_searchFor_8 : decode cX7_searchFor 8 = .ok (.aload_n 0, 1) := by decide +kernel
theorem dX7_searchFor_9 : decode cX7_searchFor 9 = .ok (.iload_n 1, 1) := by decide +kernel
theorem dX7_searchFor_10 : decode cX7_searchFor 10 = .ok (.invokevirtual 51, 3) := by decide +kernel
theorem dX7_searchFor_13 : decode cX7_searchFor 13 = .ok (.bipush (-6), 2) := by decide +kernel
theorem dX7_searchFor_15 : decode cX7_searchFor 15 = .ok (.if_icmp .ne 60, 3) := by decide +kernel
theorem dX7_searchFor_18 : decode cX7_searchFor 18 = .ok (.aload_n 0, 1) := by decide +kernel
theorem dX7_searchFor_19 : decode cX7_searchFor 19 = .ok (.getfield 31, 3) := by decide +kernel
theorem dX7_searchFor_22 : decode cX7_searchFor 22 = .ok (.iload_n 2, 1) := by decide +kernel
theorem dX7_searchFor_23 : decode cX7_searchFor 23 = .ok (.if_icmp .ge 52, 3) := by decide +kernel
theorem dX7_searchFor_26 : decode cX7_searchFor 26 = .ok (.aload_n 0, 1) := by decide +kernel
theorem dX7_searchFor_27 : decode cX7_searchFor 27 = .ok (.getfield 34, 3) := by decide +kernel
theorem dX7_searchFor_30 : decode cX7_searchFor 30 = .ok (.aload_n 0, 1) := by decide +kernel
theorem dX7_searchFor_31 : decode cX7_searchFor 31 = .ok (.getfield 31, 3) := by decide +kernel
theorem dX7_searchFor_34 : decode cX7_searchFor 34 = .ok (.if_icmp .ge 41, 3) := by decide +kernel
theorem dX7_searchFor_37 : decode cX7_searchFor 37 = .ok (.aload_n 0, 1) := by decide +kernel
theorem dX7_searchFor_38 : decode cX7_searchFor 38 = .ok (.getfield 34, 3) := by decide +kernel
theorem dX7_searchFor_41 : decode cX7_searchFor 41 = .ok (.aload_n 0, 1) := by decide +kernel
theorem dX7_searchFor_42 : decode cX7_searchFor 42 = .ok (.getfield 17, 3) := by decide +kernel
theorem dX7_searchFor_45 : decode cX7_searchFor 45 = .ok (.arraylength, 1) := by decide +kernel
theorem dX7_searchFor_46 : decode cX7_searchFor 46 = .ok (.if_icmp .ge 29, 3) := by decide +kernel
theorem dX7_searchFor_49 : decode cX7_searchFor 49 = .ok (.aload_n 0, 1) := by decide +kernel
theorem dX7_searchFor_50 : decode cX7_searchFor 50 = .ok (.aload_n 0, 1) := by decide +kernel
theorem dX7_searchFor_51 : decode cX7_searchFor 51 = .ok (.getfield 17, 3) := by decide +kernel
theorem dX7_searchFor_54 : decode cX7_searchFor 54 = .ok (.aload_n 0, 1) := by decide +kernel
theorem dX7_searchFor_55 : decode cX7_searchFor 55 = .ok (.getfield 34, 3) := by decide +kernel
theorem dX7_searchFor_58 : decode cX7_searchFor 58 = .ok (.iaload, 1) := by decide +kernel
theorem dX7_searchFor_59 : decode cX7_searchFor 59 = .ok (.invokevirtual 58, 3) := by decide +kernel
theorem dX7_searchFor_62 : decode cX7_searchFor 62 = .ok (.aload_n 0, 1) := by decide +kernel
theorem dX7_searchFor_63 : decode cX7_searchFor 63 = .ok (.dup, 1) := by decide +kernel
theorem dX7_searchFor_64 : decode cX7_searchFor 64 = .ok (.getfield 34, 3) := by decide +kernel
theorem dX7_searchFor_67 : decode cX7_searchFor 67 = .ok (.iconst 1, 1) := by decide +kernel
theorem dX7_searchFor_68 : decode cX7_searchFor 68 = .ok (.iadd, 1) := by decide +kernel
theorem dX7_searchFor_69 : decode cX7_searchFor 69 = .ok (.putfield 34, 3) := by decide +kernel
theorem dX7_searchFor_72 : decode cX7_searchFor 72 = .ok (.goto (-64), 3) := by decide +kernel
theorem dX7_searchFor_75 : decode cX7_searchFor 75 = .ok (.return_, 1) := by decide +kernel
set_option maxRecDepth 20000 in
theorem ggX7_queueGoal_X7_reach : GoodIn wsX7_queueGoal wsX7_reach := goodIn_r _ [7, 8, 9, 10, 23, 24, 25, 26, 27, 28, 29] (by decide +kernel) (by decide +kernel)
set_option maxRecDepth 20000 in
theorem gX7_queueGoal_X7_reach : GoodIn wsX7_queueGoal (wsV RX7 61 RX7 yX7_reach wsX7_reach) := goodIn_app (goodIn_of _ (by decide +kernel)) ggX7_queueGoal_X7_reach
set_option maxRecDepth 20000 in
theorem ggX7_queueGoal_X0_markAt : GoodIn wsX7_queueGoal wsX0_markAt := goodIn_r _ [14] (by decide +kernel) (by decide +kernel)
set_option maxRecDepth 20000 in
theorem gX7_queueGoal_X0_markAt : GoodIn wsX7_queueGoal (va_wsS RX7 64 yX0_markAt wsX0_markAt) := goodIn_app (goodIn_of _ (by decide +kernel)) ggX7_queueGoal_X0_markAt
set_option maxRecDepth 20000 in
theorem ggX7_queueGoal_X1_weight : GoodIn wsX7_queueGoal wsX1_weight := goodIn_r _ [18, 19] (by decide +kernel) (by decide +kernel)
set_option maxRecDepth 20000 in
theorem gX7_queueGoal_X1_weight : GoodIn wsX7_queueGoal (va_wsS RX7 70 yX1_weight wsX1_weight) := goodIn_app (goodIn_of _ (by decide +kernel)) ggX7_queueGoal_X1_weight
set_option maxRecDepth 20000 in
theorem ggX7_queueGoal_X7_queueGoal : GoodIn wsX7_queueGoal wsX7_queueGoal := goodIn_r _ [0, 1, 2, 3, 4, 5, 6, 7, 8, 9, 10, 11, 12, 13, 14, 15, 16, 17, 18, 19, 20, 21, 22, 23, 24, 25, 26, 27, 28, 29] (by decide +kernel) (by decide +kernel)
set_option maxRecDepth 20000 in
theorem gX7_queueGoal_X7_queueGoal : GoodIn wsX7_queueGoal (wsV RX7 43 RX7 yX7_queueGoal wsX7_queueGoal) := goodIn_app (goodIn_of _ (by decide +kernel)) ggX7_queueGoal_X7_queueGoal
theorem dX7_queueGoal_0 : decode cX7_queueGoal 0 = .ok (.iload_n 1, 1) := by decide +kernel
theorem dX7_queueGoal_1 : decode cX7_queueGoal 1 = .ok (.aload_n 0, 1) := by decide +kernel
theorem dX7_queueGoal_2 : decode cX7_queueGoal 2 = .ok (.getfield 28, 3) := by decide +kernel
theorem dX7_queueGoal_5 : decode cX7_queueGoal 5 = .ok (.if_icmp .ge 9, 3) := by decide +kernel
theorem dX7_queueGoal_8 : decode cX7_queueGoal 8 = .ok (.iload_n 1, 1) := by decide +kernel
theorem dX7_queueGoal_9 : decode cX7_queueGoal 9 = .ok (.bipush 6, 2) := by decide +kernel
theorem dX7_queueGoal_11 : decode cX7_queueGoal 11 = .ok (.if_icmp .lt 10, 3) := by decide +kernel
theorem dX7_queueGoal_14 : decode cX7_queueGoal 14 = .ok (.aload_n 0, 1) := by decide +kernel
theorem dX7_queueGoal_15 : decode cX7_queueGoal 15 = .ok (.iload_n 2, 1) := by decide +kernel
theorem dX7_queueGoal_16 : decode cX7_queueGoal 16 = .ok (.iconst 0, 1) := by decide +kernel
theorem dX7_queueGoal_17 : decode cX7_queueGoal 17 = .ok (.invokevirtual 61, 3) := by decide +kernel
theorem dX7_queueGoal_20 : decode cX7_queueGoal 20 = .ok (.return_, 1) := by decide +kernel
theorem dX7_queueGoal_21 : decode cX7_queueGoal 21 = .ok (.aload_n 0, 1) := by decide +kernel
theorem dX7_queueGoal_22 : decode cX7_queueGoal 22 = .ok (.getfield 21, 3) := by decide +kernel
theorem dX7_queueGoal_25 : decode cX7_queueGoal 25 = .ok (.iload_n 1, 1) := by decide +kernel
theorem dX7_queueGoal_26 : decode cX7_queueGoal 26 = .ok (.invokestatic 64, 3) := by decide +kernel
theorem dX7_queueGoal_29 : decode cX7_queueGoal 29 = .ok (.istore_n 3, 1) := by decide +kernel
theorem dX7_queueGoal_30 : decode cX7_queueGoal 30 = .ok (.iconst 0, 1) := by decide +kernel
theorem dX7_queueGoal_31 : decode cX7_queueGoal 31 = .ok (.istore 4, 2) := by decide +kernel
theorem dX7_queueGoal_33 : decode cX7_queueGoal 33 = .ok (.iload 4, 2) := by decide +kernel
theorem dX7_queueGoal_35 : decode cX7_queueGoal 35 = .ok (.iconst 5, 1) := by decide +kernel
theorem dX7_queueGoal_36 : decode cX7_queueGoal 36 = .ok (.if_icmp .ge 36, 3) := by decide +kernel
theorem dX7_queueGoal_39 : decode cX7_queueGoal 39 = .ok (.iload_n 3, 1) := by decide +kernel
theorem dX7_queueGoal_40 : decode cX7_queueGoal 40 = .ok (.iconst 5, 1) := by decide +kernel
theorem dX7_queueGoal_41 : decode cX7_queueGoal 41 = .ok (.if_icmp .eq 9, 3) := by decide +kernel
theorem dX7_queueGoal_44 : decode cX7_queueGoal 44 = .ok (.iload_n 3, 1) := by decide +kernel
theorem dX7_queueGoal_45 : decode cX7_queueGoal 45 = .ok (.iload 4, 2) := by decide +kernel
theorem dX7_queueGoal_47 : decode cX7_queueGoal 47 = .ok (.if_icmp .ne 19, 3) := by decide +kernel
theorem dX7_queueGoal_50 : decode cX7_queueGoal 50 = .ok (.aload_n 0, 1) := by decide +kernel
theorem dX7_queueGoal_51 : decode cX7_queueGoal 51 = .ok (.iload_n 1, 1) := by decide +kernel
theorem dX7_queueGoal_52 : decode cX7_queueGoal 52 = .ok (.iconst 1, 1) := by decide +kernel
theorem dX7_queueGoal_53 : decode cX7_queueGoal 53 = .ok (.iadd, 1) := by decide +kernel
theorem dX7_queueGoal_54 : decode cX7_queueGoal 54 = .ok (.iload_n 2, 1) := by decide +kernel
theorem dX7_queueGoal_55 : decode cX7_queueGoal 55 = .ok (.iload 4, 2) := by decide +kernel
theorem dX7_queueGoal_57 : decode cX7_queueGoal 57 = .ok (.iload_n 1, 1) := by decide +kernel
theorem dX7_queueGoal_58 : decode cX7_queueGoal 58 = .ok (.invokestatic 70, 3) := by decide +kernel
theorem dX7_queueGoal_61 : decode cX7_queueGoal 61 = .ok (.imul, 1) := by decide +kernel
theorem dX7_queueGoal_62 : decode cX7_queueGoal 62 = .ok (.iadd, 1) := by decide +kernel
theorem dX7_queueGoal_63 : decode cX7_queueGoal 63 = .ok (.invokevirtual 43, 3) := by decide +kernel
theorem dX7_queueGoal_66 : decode cX7_queueGoal 66 = .ok (.iinc 4 1, 3) := by decide +kernel
theorem dX7_queueGoal_69 : decode cX7_queueGoal 69 = .ok (.goto (-36), 3) := by decide +kernel
theorem dX7_queueGoal_72 : decode cX7_queueGoal 72 = .ok (.return_, 1) := by decide +kernel
set_option maxRecDepth 20000 in
theorem ggX7_queueBefore_X7_known : GoodIn wsX7_queueBefore wsX7_known := goodIn_r _ [7, 8, 27, 28, 29, 30, 31, 32, 33] (by decide +kernel) (by decide +kernel)
set_option maxRecDepth 20000 in
theorem gX7_queueBefore_X7_known : GoodIn wsX7_queueBefore (wsV RX7 51 RX7 yX7_known wsX7_known) := goodIn_app (goodIn_of _ (by decide +kernel)) ggX7_queueBefore_X7_known
set_option maxRecDepth 20000 in
theorem ggX7_queueBefore_X1_weight : GoodIn wsX7_queueBefore wsX1_weight := goodIn_r _ [12, 13] (by decide +kernel) (by decide +kernel)
set_option maxRecDepth 20000 in
theorem gX7_queueBefore_X1_weight : GoodIn wsX7_queueBefore (va_wsS RX7 70 yX1_weight wsX1_weight) := goodIn_app (goodIn_of _ (by decide +kernel)) ggX7_queueBefore_X1_weight
set_option maxRecDepth 20000 in
theorem ggX7_queueBefore_X1_signBy : GoodIn wsX7_queueBefore wsX1_signBy := goodIn_r _ [16] (by decide +kernel) (by decide +kernel)
set_option maxRecDepth 20000 in
theorem gX7_queueBefore_X1_signBy : GoodIn wsX7_queueBefore (va_wsS RX7 73 yX1_signBy wsX1_signBy) := goodIn_app (goodIn_of _ (by decide +kernel)) ggX7_queueBefore_X1_signBy
set_option maxRecDepth 20000 in
theorem ggX7_queueBefore_X7_canHaveMade : GoodIn wsX7_queueBefore wsX7_canHaveMade := goodIn_r _ [20, 2, 27, 28, 29, 30, 31, 32, 33] (by decide +kernel) (by decide +kernel)
set_option maxRecDepth 20000 in
theorem gX7_queueBefore_X7_canHaveMade : GoodIn wsX7_queueBefore (wsV RX7 76 RX7 yX7_canHaveMade wsX7_canHaveMade) := goodIn_app (goodIn_of _ (by decide +kernel)) ggX7_queueBefore_X7_canHaveMade
set_option maxRecDepth 20000 in
theorem ggX7_queueBefore_X7_reach : GoodIn wsX7_queueBefore wsX7_reach := goodIn_r _ [24, 8, 25, 26, 27, 28, 29, 30, 31, 32, 33] (by decide +kernel) (by decide +kernel)
set_option maxRecDepth 20000 in
theorem gX7_queueBefore_X7_reach : GoodIn wsX7_queueBefore (wsV RX7 61 RX7 yX7_reach wsX7_reach) := goodIn_app (goodIn_of _ (by decide +kernel)) ggX7_queueBefore_X7_reach
theorem dX7_queueBefore_0 : decode cX7_queueBefore 0 = .ok (.aload_n 0, 1) := by decide +kernel
theorem dX7_queueBefore_1 : decode cX7_queueBefore 1 = .ok (.iload_n 1, 1) := by decide +kernel
theorem dX7_queueBefore_2 : decode cX7_queueBefore 2 = .ok (.invokevirtual 51, 3) := by decide +kernel
theorem dX7_queueBefore_5 : decode cX7_queueBefore 5 = .ok (.iconst 1, 1) := by decide +kernel
theorem dX7_queueBefore_6 : decode cX7_queueBefore 6 = .ok (.iadd, 1) := by decide +kernel
theorem dX7_queueBefore_7 : decode cX7_queueBefore 7 = .ok (.istore_n 2, 1) := by decide +kernel
theorem dX7_queueBefore_8 : decode cX7_queueBefore 8 = .ok (.iconst (-1), 1) := by decide +kernel
theorem dX7_queueBefore_9 : decode cX7_queueBefore 9 = .ok (.istore_n 3, 1) := by decide +kernel
theorem dX7_queueBefore_10 : decode cX7_queueBefore 10 = .ok (.iconst 0, 1) := by decide +kernel
theorem dX7_queueBefore_11 : decode cX7_queueBefore 11 = .ok (.istore 4, 2) := by decide +kernel
theorem dX7_queueBefore_13 : decode cX7_queueBefore 13 = .ok (.iload 4, 2) := by decide +kernel
theorem dX7_queueBefore_15 : decode cX7_queueBefore 15 = .ok (.aload_n 0, 1) := by decide +kernel
theorem dX7_queueBefore_16 : decode cX7_queueBefore 16 = .ok (.getfield 28, 3) := by decide +kernel
theorem dX7_queueBefore_19 : decode cX7_queueBefore 19 = .ok (.if_icmp .ge 118, 3) := by decide +kernel
theorem dX7_queueBefore_22 : decode cX7_queueBefore 22 = .ok (.iload 4, 2) := by decide +kernel
theorem dX7_queueBefore_24 : decode cX7_queueBefore 24 = .ok (.invokestatic 70, 3) := by decide +kernel
theorem dX7_queueBefore_27 : decode cX7_queueBefore 27 = .ok (.istore 5, 2) := by decide +kernel
theorem dX7_queueBefore_29 : decode cX7_queueBefore 29 = .ok (.iload_n 1, 1) := by decide +kernel
theorem dX7_queueBefore_30 : decode cX7_queueBefore 30 = .ok (.iload 5, 2) := by decide +kernel
theorem dX7_queueBefore_32 : decode cX7_queueBefore 32 = .ok (.invokestatic 73, 3) := by decide +kernel
theorem dX7_queueBefore_35 : decode cX7_queueBefore 35 = .ok (.istore 6, 2) := by decide +kernel
theorem dX7_queueBefore_37 : decode cX7_queueBefore 37 = .ok (.aload_n 0, 1) := by decide +kernel
theorem dX7_queueBefore_38 : decode cX7_queueBefore 38 = .ok (.iload_n 3, 1) := by decide +kernel
theorem dX7_queueBefore_39 : decode cX7_queueBefore 39 = .ok (.iload 6, 2) := by decide +kernel
theorem dX7_queueBefore_41 : decode cX7_queueBefore 41 = .ok (.invokevirtual 76, 3) := by decide +kernel
theorem dX7_queueBefore_44 : decode cX7_queueBefore 44 = .ok (.ifCond .eq 40, 3) := by decide +kernel
theorem dX7_queueBefore_47 : decode cX7_queueBefore 47 = .ok (.iload_n 1, 1) := by decide +kernel
theorem dX7_queueBefore_48 : decode cX7_queueBefore 48 = .ok (.iload 6, 2) := by decide +kernel
theorem dX7_queueBefore_50 : decode cX7_queueBefore 50 = .ok (.iload 5, 2) := by decide +kernel
theorem dX7_queueBefore_52 : decode cX7_queueBefore 52 = .ok (.imul, 1) := by decide +kernel
theorem dX7_queueBefore_53 : decode cX7_queueBefore 53 = .ok (.isub, 1) := by decide +kernel
theorem dX7_queueBefore_54 : decode cX7_queueBefore 54 = .ok (.istore 7, 2) := by decide +kernel
theorem dX7_queueBefore_56 : decode cX7_queueBefore 56 = .ok (.iconst 0, 1) := by decide +kernel
theorem dX7_queueBefore_57 : decode cX7_queueBefore 57 = .ok (.istore 8, 2) := by decide +kernel
theorem dX7_queueBefore_59 : decode cX7_queueBefore 59 = .ok (.iload 8, 2) := by decide +kernel
theorem dX7_queueBefore_61 : decode cX7_queueBefore 61 = .ok (.iconst 5, 1) := by decide +kernel
theorem dX7_queueBefore_62 : decode cX7_queueBefore 62 = .ok (.if_icmp .ge 22, 3) := by decide +kernel
theorem dX7_queueBefore_65 : decode cX7_queueBefore 65 = .ok (.aload_n 0, 1) := by decide +kernel
theorem dX7_queueBefore_66 : decode cX7_queueBefore 66 = .ok (.iload 7, 2) := by decide +kernel
theorem dX7_queueBefore_68 : decode cX7_queueBefore 68 = .ok (.iload 8, 2) := by decide +kernel
theorem dX7_queueBefore_70 : decode cX7_queueBefore 70 = .ok (.iload 5, 2) := by decide +kernel
theorem dX7_queueBefore_72 : decode cX7_queueBefore 72 = .ok (.imul, 1) := by decide +kernel
theorem dX7_queueBefore_73 : decode cX7_queueBefore 73 = .ok (.iadd, 1) := by decide +kernel
theorem dX7_queueBefore_74 : decode cX7_queueBefore 74 = .ok (.iload_n 2, 1) := by decide +kernel
theorem dX7_queueBefore_75 : decode cX7_queueBefore 75 = .ok (.invokevirtual 61, 3) := by decide +kernel
theorem dX7_queueBefore_78 : decode cX7_queueBefore 78 = .ok (.iinc 8 1, 3) := by decide +kernel
theorem dX7_queueBefore_81 : decode cX7_queueBefore 81 = .ok (.goto (-22), 3) := by decide +kernel
theorem dX7_queueBefore_84 : decode cX7_queueBefore 84 = .ok (.iload_n 3, 1) := by decide +kernel
theorem dX7_queueBefore_85 : decode cX7_queueBefore 85 = .ok (.ifCond .lt 43, 3) := by decide +kernel
theorem dX7_queueBefore_88 : decode cX7_queueBefore 88 = .ok (.iload_n 3, 1) := by decide +kernel
theorem dX7_queueBefore_89 : decode cX7_queueBefore 89 = .ok (.iload 6, 2) := by decide +kernel
theorem dX7_queueBefore_91 : decode cX7_queueBefore 91 = .ok (.if_icmp .eq 37, 3) := by decide +kernel
theorem dX7_queueBefore_94 : decode cX7_queueBefore 94 = .ok (.aload_n 0, 1) := by decide +kernel
theorem dX7_queueBefore_95 : decode cX7_queueBefore 95 = .ok (.getfield 25, 3) := by decide +kernel
theorem dX7_queueBefore_98 : decode cX7_queueBefore 98 = .ok (.iconst 1, 1) := by decide +kernel
theorem dX7_queueBefore_99 : decode cX7_queueBefore 99 = .ok (.ishr, 1) := by decide +kernel
theorem dX7_queueBefore_100 : decode cX7_queueBefore 100 = .ok (.iconst 1, 1) := by decide +kernel
theorem dX7_queueBefore_101 : decode cX7_queueBefore 101 = .ok (.iand, 1) := by decide +kernel
theorem dX7_queueBefore_102 : decode cX7_queueBefore 102 = .ok (.ifCond .eq 26, 3) := by decide +kernel
theorem dX7_queueBefore_105 : decode cX7_queueBefore 105 = .ok (.iconst 5, 1) := by decide +kernel
theorem dX7_queueBefore_106 : decode cX7_queueBefore 106 = .ok (.iload 5, 2) := by decide +kernel
theorem dX7_queueBefore_108 : decode cX7_queueBefore 108 = .ok (.imul, 1) := by decide +kernel
theorem dX7_queueBefore_109 : decode cX7_queueBefore 109 = .ok (.istore 7, 2) := by decide +kernel
theorem dX7_queueBefore_111 : decode cX7_queueBefore 111 = .ok (.aload_n 0, 1) := by decide +kernel
theorem dX7_queueBefore_112 : decode cX7_queueBefore 112 = .ok (.iload_n 1, 1) := by decide +kernel
theorem dX7_queueBefore_113 : decode cX7_queueBefore 113 = .ok (.iload 6, 2) := by decide +kernel
theorem dX7_queueBefore_115 : decode cX7_queueBefore 115 = .ok (.iload_n 3, 1) := by decide +kernel
theorem dX7_queueBefore_116 : decode cX7_queueBefore 116 = .ok (.isub, 1) := by decide +kernel
theorem dX7_queueBefore_117 : decode cX7_queueBefore 117 = .ok (.iload 7, 2) := by decide +kernel
theorem dX7_queueBefore_119 : decode cX7_queueBefore 119 = .ok (.iload 5, 2) := by decide +kernel
theorem dX7_queueBefore_121 : decode cX7_queueBefore 121 = .ok (.isub, 1) := by decide +kernel
theorem dX7_queueBefore_122 : decode cX7_queueBefore 122 = .ok (.imul, 1) := by decide +kernel
theorem dX7_queueBefore_123 : decode cX7_queueBefore 123 = .ok (.iadd, 1) := by decide +kernel
theorem dX7_queueBefore_124 : decode cX7_queueBefore 124 = .ok (.iload_n 2, 1) := by decide +kernel
theorem dX7_queueBefore_125 : decode cX7_queueBefore 125 = .ok (.invokevirtual 61, 3) := by decide +kernel
theorem dX7_queueBefore_128 : decode cX7_queueBefore 128 = .ok (.iload 6, 2) := by decide +kernel
theorem dX7_queueBefore_130 : decode cX7_queueBefore 130 = .ok (.istore_n 3, 1) := by decide +kernel
theorem dX7_queueBefore_131 : decode cX7_queueBefore 131 = .ok (.iinc 4 1, 3) := by decide +kernel
theorem dX7_queueBefore_134 : decode cX7_queueBefore 134 = .ok (.goto (-121), 3) := by decide +kernel
theorem dX7_queueBefore_137 : decode cX7_queueBefore 137 = .ok (.return_, 1) := by decide +kernel
theorem dX7_canHaveMade_0 : decode cX7_canHaveMade 0 = .ok (.iload_n 1, 1) := by decide +kernel
theorem dX7_canHaveMade_1 : decode cX7_canHaveMade 1 = .ok (.iload_n 2, 1) := by decide +kernel
theorem dX7_canHaveMade_2 : decode cX7_canHaveMade 2 = .ok (.if_icmp .ne 14, 3) := by decide +kernel
theorem dX7_canHaveMade_5 : decode cX7_canHaveMade 5 = .ok (.aload_n 0, 1) := by decide +kernel
theorem dX7_canHaveMade_6 : decode cX7_canHaveMade 6 = .ok (.getfield 25, 3) := by decide +kernel
theorem dX7_canHaveMade_9 : decode cX7_canHaveMade 9 = .ok (.iconst 2, 1) := by decide +kernel
theorem dX7_canHaveMade_10 : decode cX7_canHaveMade 10 = .ok (.ishr, 1) := by decide +kernel
theorem dX7_canHaveMade_11 : decode cX7_canHaveMade 11 = .ok (.iconst 1, 1) := by decide +kernel
theorem dX7_canHaveMade_12 : decode cX7_canHaveMade 12 = .ok (.iand, 1) := by decide +kernel
theorem dX7_canHaveMade_13 : decode cX7_canHaveMade 13 = .ok (.ifCond .ne 23, 3) := by decide +kernel
theorem dX7_canHaveMade_16 : decode cX7_canHaveMade 16 = .ok (.aload_n 0, 1) := by decide +kernel
theorem dX7_canHaveMade_17 : decode cX7_canHaveMade 17 = .ok (.getfield 25, 3) := by decide +kernel
theorem dX7_canHaveMade_20 : decode cX7_canHaveMade 20 = .ok (.iload_n 2, 1) := by decide +kernel
theorem dX7_canHaveMade_21 : decode cX7_canHaveMade 21 = .ok (.iconst 4, 1) := by decide +kernel
theorem dX7_canHaveMade_22 : decode cX7_canHaveMade 22 = .ok (.if_icmp .ne 7, 3) := by decide +kernel
theorem dX7_canHaveMade_25 : decode cX7_canHaveMade 25 = .ok (.iconst 3, 1) := by decide +kernel
theorem dX7_canHaveMade_26 : decode cX7_canHaveMade 26 = .ok (.goto 4, 3) := by decide +kernel
theorem dX7_canHaveMade_29 : decode cX7_canHaveMade 29 = .ok (.iconst 0, 1) := by decide +kernel
theorem dX7_canHaveMade_30 : decode cX7_canHaveMade 30 = .ok (.ishr, 1) := by decide +kernel
theorem dX7_canHaveMade_31 : decode cX7_canHaveMade 31 = .ok (.iconst 1, 1) := by decide +kernel
theorem dX7_canHaveMade_32 : decode cX7_canHaveMade 32 = .ok (.iand, 1) := by decide +kernel
theorem dX7_canHaveMade_33 : decode cX7_canHaveMade 33 = .ok (.ifCond .eq 7, 3) := by decide +kernel
theorem dX7_canHaveMade_36 : decode cX7_canHaveMade 36 = .ok (.iconst 1, 1) := by decide +kernel
theorem dX7_canHaveMade_37 : decode cX7_canHaveMade 37 = .ok (.goto 4, 3) := by decide +kernel
theorem dX7_canHaveMade_40 : decode cX7_canHaveMade 40 = .ok (.iconst 0, 1) := by decide +kernel
theorem dX7_canHaveMade_41 : decode cX7_canHaveMade 41 = .ok (.ireturn, 1) := by decide +kernel
theorem dX7_reach_0 : decode cX7_reach 0 = .ok (.iload_n 1, 1) := by decide +kernel
theorem dX7_reach_1 : decode cX7_reach 1 = .ok (.ifCond .lt 23, 3) := by decide +kernel
theorem dX7_reach_4 : decode cX7_reach 4 = .ok (.iload_n 1, 1) := by decide +kernel
theorem dX7_reach_5 : decode cX7_reach 5 = .ok (.aload_n 0, 1) := by decide +kernel
theorem dX7_reach_6 : decode cX7_reach 6 = .ok (.getfield 11, 3) := by decide +kernel
theorem dX7_reach_9 : decode cX7_reach 9 = .ok (.arraylength, 1) := by decide +kernel
theorem dX7_reach_10 : decode cX7_reach 10 = .ok (.if_icmp .ge 14, 3) := by decide +kernel
theorem dX7_reach_13 : decode cX7_reach 13 = .ok (.aload_n 0, 1) := by decide +kernel
theorem dX7_reach_14 : decode cX7_reach 14 = .ok (.getfield 11, 3) := by decide +kernel
theorem dX7_reach_17 : decode cX7_reach 17 = .ok (.iload_n 1, 1) := by decide +kernel
theorem dX7_reach_18 : decode cX7_reach 18 = .ok (.baload, 1) := by decide +kernel
theorem dX7_reach_19 : decode cX7_reach 19 = .ok (.bipush (-6), 2) := by decide +kernel
theorem dX7_reach_21 : decode cX7_reach 21 = .ok (.if_icmp .eq 4, 3) := by decide +kernel
theorem dX7_reach_24 : decode cX7_reach 24 = .ok (.return_, 1) := by decide +kernel
theorem dX7_reach_25 : decode cX7_reach 25 = .ok (.aload_n 0, 1) := by decide +kernel
theorem dX7_reach_26 : decode cX7_reach 26 = .ok (.getfield 31, 3) := by decide +kernel
theorem dX7_reach_29 : decode cX7_reach 29 = .ok (.ifCond .lt 43, 3) := by decide +kernel
theorem dX7_reach_32 : decode cX7_reach 32 = .ok (.aload_n 0, 1) := by decide +kernel
theorem dX7_reach_33 : decode cX7_reach 33 = .ok (.getfield 31, 3) := by decide +kernel
theorem dX7_reach_36 : decode cX7_reach 36 = .ok (.aload_n 0, 1) := by decide +kernel
theorem dX7_reach_37 : decode cX7_reach 37 = .ok (.getfield 17, 3) := by decide +kernel
theorem dX7_reach_40 : decode cX7_reach 40 = .ok (.arraylength, 1) := by decide +kernel
theorem dX7_reach_41 : decode cX7_reach 41 = .ok (.if_icmp .ge 31, 3) := by decide +kernel
theorem dX7_reach_44 : decode cX7_reach 44 = .ok (.aload_n 0, 1) := by decide +kernel
theorem dX7_reach_45 : decode cX7_reach 45 = .ok (.getfield 11, 3) := by decide +kernel
theorem dX7_reach_48 : decode cX7_reach 48 = .ok (.iload_n 1, 1) := by decide +kernel
theorem dX7_reach_49 : decode cX7_reach 49 = .ok (.iload_n 2, 1) := by decide +kernel
theorem dX7_reach_50 : decode cX7_reach 50 = .ok (.i2b, 1) := by decide +kernel
theorem dX7_reach_51 : decode cX7_reach 51 = .ok (.bastore, 1) := by decide +kernel
theorem dX7_reach_52 : decode cX7_reach 52 = .ok (.aload_n 0, 1) := by decide +kernel
theorem dX7_reach_53 : decode cX7_reach 53 = .ok (.getfield 17, 3) := by decide +kernel
theorem dX7_reach_56 : decode cX7_reach 56 = .ok (.aload_n 0, 1) := by decide +kernel
theorem dX7_reach_57 : decode cX7_reach 57 = .ok (.getfield 31, 3) := by decide +kernel
theorem dX7_reach_60 : decode cX7_reach 60 = .ok (.iload_n 1, 1) := by decide +kernel
theorem dX7_reach_61 : decode cX7_reach 61 = .ok (.iastore, 1) := by decide +kernel
theorem dX7_reach_62 : decode cX7_reach 62 = .ok (.aload_n 0, 1) := by decide +kernel
theorem dX7_reach_63 : decode cX7_reach 63 = .ok (.dup, 1) := by decide +kernel
theorem dX7_reach_64 : decode cX7_reach 64 = .ok (.getfield 31, 3) := by decide +kernel
theorem dX7_reach_67 : decode cX7_reach 67 = .ok (.iconst 1, 1) := by decide +kernel
theorem dX7_reach_68 : decode cX7_reach 68 = .ok (.iadd, 1) := by decide +kernel
theorem dX7_reach_69 : decode cX7_reach 69 = .ok (.putfield 31, 3) := by decide +kernel
theorem dX7_reach_72 : decode cX7_reach 72 = .ok (.return_, 1) := by decide +kernel
theorem dX8_init_0 : decode cX8_init 0 = .ok (.aload_n 0, 1) := by decide +kernel
theorem dX8_init_1 : decode cX8_init 1 = .ok (.invokespecial 3, 3) := by decide +kernel
theorem dX8_init_4 : decode cX8_init 4 = .ok (.aload_n 0, 1) := by decide +kernel
theorem dX8_init_5 : decode cX8_init 5 = .ok (.bipush 36, 2) := by decide +kernel
theorem dX8_init_7 : decode cX8_init 7 = .ok (.newarray .int, 2) := by decide +kernel
theorem dX8_init_9 : decode cX8_init 9 = .ok (.putfield 9, 3) := by decide +kernel
theorem dX8_init_12 : decode cX8_init 12 = .ok (.aload_n 0, 1) := by decide +kernel
theorem dX8_init_13 : decode cX8_init 13 = .ok (.bipush 6, 2) := by decide +kernel
theorem dX8_init_15 : decode cX8_init 15 = .ok (.newarray .int, 2) := by decide +kernel
theorem dX8_init_17 : decode cX8_init 17 = .ok (.putfield 15, 3) := by decide +kernel
theorem dX8_init_20 : decode cX8_init 20 = .ok (.aload_n 0, 1) := by decide +kernel
theorem dX8_init_21 : decode cX8_init 21 = .ok (.bipush 6, 2) := by decide +kernel
theorem dX8_init_23 : decode cX8_init 23 = .ok (.newarray .int, 2) := by decide +kernel
theorem dX8_init_25 : decode cX8_init 25 = .ok (.putfield 18, 3) := by decide +kernel
theorem dX8_init_28 : decode cX8_init 28 = .ok (.return_, 1) := by decide +kernel
set_option maxRecDepth 20000 in
theorem ggX8_note_X9_isMap : GoodIn wsX8_note wsX9_isMap := goodIn_r _ [4] (by decide +kernel) (by decide +kernel)
set_option maxRecDepth 20000 in
theorem gX8_note_X9_isMap_n21 : GoodIn wsX8_note (wsX9_isMap) := ggX8_note_X9_isMap
theorem dX8_note_0 : decode cX8_note 0 = .ok (.iload_n 1, 1) := by decide +kernel
theorem dX8_note_1 : decode cX8_note 1 = .ok (.invokestatic 21, 3) := by decide +kernel
theorem dX8_note_4 : decode cX8_note 4 = .ok (.ifCond .eq 22, 3) := by decide +kernel
theorem dX8_note_7 : decode cX8_note 7 = .ok (.iload_n 2, 1) := by decide +kernel
theorem dX8_note_8 : decode cX8_note 8 = .ok (.invokestatic 21, 3) := by decide +kernel
theorem dX8_note_11 : decode cX8_note 11 = .ok (.ifCond .eq 15, 3) := by decide +kernel
theorem dX8_note_14 : decode cX8_note 14 = .ok (.aload_n 0, 1) := by decide +kernel
theorem dX8_note_15 : decode cX8_note 15 = .ok (.getfield 9, 3) := by decide +kernel
theorem dX8_note_18 : decode cX8_note 18 = .ok (.iload_n 1, 1) := by decide +kernel
theorem dX8_note_19 : decode cX8_note 19 = .ok (.bipush 6, 2) := by decide +kernel
theorem dX8_note_21 : decode cX8_note 21 = .ok (.imul, 1) := by decide +kernel
theorem dX8_note_22 : decode cX8_note 22 = .ok (.iload_n 2, 1) := by decide +kernel
theorem dX8_note_23 : decode cX8_note 23 = .ok (.iadd, 1) := by decide +kernel
theorem dX8_note_24 : decode cX8_note 24 = .ok (.iload_n 3, 1) := by decide +kernel
theorem dX8_note_25 : decode cX8_note 25 = .ok (.iastore, 1) := by decide +kernel
theorem dX8_note_26 : decode cX8_note 26 = .ok (.return_, 1) := by decide +kernel
set_option maxRecDepth 20000 in
theorem ggX8_slipsOf_X9_isMap : GoodIn wsX8_slipsOf wsX9_isMap := goodIn_r _ [4] (by decide +kernel) (by decide +kernel)
set_option maxRecDepth 20000 in
theorem gX8_slipsOf_X9_isMap_n21 : GoodIn wsX8_slipsOf (wsX9_isMap) := ggX8_slipsOf_X9_isMap
theorem dX8_slipsOf_0 : decode cX8_slipsOf 0 = .ok (.iload_n 1, 1) := by decide +kernel
theorem dX8_slipsOf_1 : decode cX8_slipsOf 1 = .ok (.invokestatic 21, 3) := by decide +kernel
theorem dX8_slipsOf_4 : decode cX8_slipsOf 4 = .ok (.ifCond .eq 24, 3) := by decide +kernel
theorem dX8_slipsOf_7 : decode cX8_slipsOf 7 = .ok (.iload_n 2, 1) := by decide +kernel
theorem dX8_slipsOf_8 : decode cX8_slipsOf 8 = .ok (.invokestatic 21, 3) := by decide +kernel
theorem dX8_slipsOf_11 : decode cX8_slipsOf 11 = .ok (.ifCond .eq 17, 3) := by decide +kernel
theorem dX8_slipsOf_14 : decode cX8_slipsOf 14 = .ok (.aload_n 0, 1) := by decide +kernel
theorem dX8_slipsOf_15 : decode cX8_slipsOf 15 = .ok (.getfield 9, 3) := by decide +kernel
theorem dX8_slipsOf_18 : decode cX8_slipsOf 18 = .ok (.iload_n 1, 1) := by decide +kernel
theorem dX8_slipsOf_19 : decode cX8_slipsOf 19 = .ok (.bipush 6, 2) := by decide +kernel
theorem dX8_slipsOf_21 : decode cX8_slipsOf 21 = .ok (.imul, 1) := by decide +kernel
theorem dX8_slipsOf_22 : decode cX8_slipsOf 22 = .ok (.iload_n 2, 1) := by decide +kernel
theorem dX8_slipsOf_23 : decode cX8_slipsOf 23 = .ok (.iadd, 1) := by decide +kernel
theorem dX8_slipsOf_24 : decode cX8_slipsOf 24 = .ok (.iaload, 1) := by decide +kernel
theorem dX8_slipsOf_25 : decode cX8_slipsOf 25 = .ok (.goto 5, 3) := by decide +kernel
theorem dX8_slipsOf_28 : decode cX8_slipsOf 28 = .ok (.bipush (-6), 2) := by decide +kernel
theorem dX8_slipsOf_30 : decode cX8_slipsOf 30 = .ok (.ireturn, 1) := by decide +kernel
set_option maxRecDepth 20000 in
theorem ggX8_seek_J7_fill_53178 : GoodIn wsX8_seek wsJ7_fill_53178 := goodIn_r _ [7] (by decide +kernel) (by decide +kernel)
set_option maxRecDepth 20000 in
theorem gX8_seek_J7_fill_53178 : GoodIn wsX8_seek (va_wsS RX8 32 yJ7_fill_53178 wsJ7_fill_53178) := goodIn_app (goodIn_of _ (by decide +kernel)) ggX8_seek_J7_fill_53178
set_option maxRecDepth 20000 in
theorem ggX8_seek_X8_draw : GoodIn wsX8_seek wsX8_draw := goodIn_r _ [12, 1, 3, 13, 14, 15, 11, 16, 2, 17, 18, 19, 20, 21, 22, 23, 24, 25, 26, 27, 8, 9, 10, 28, 29, 30, 31, 32, 33, 34, 35, 36, 37, 38, 39, 40, 41] (by decide +kernel) (by decide +kernel)
set_option maxRecDepth 20000 in
theorem gX8_seek_X8_draw : GoodIn wsX8_seek (wsV RX8 38 RX8 yX8_draw wsX8_draw) := goodIn_app (goodIn_of _ (by decide +kernel)) ggX8_seek_X8_draw
theorem dX8_seek_0 : decode cX8_seek 0 = .ok (.aload_n 0, 1) := by decide +kernel
theorem dX8_seek_1 : decode cX8_seek 1 = .ok (.bipush (-6), 2) := by decide +kernel
theorem dX8_seek_3 : decode cX8_seek 3 = .ok (.putfield 25, 3) := by decide +kernel
theorem dX8_seek_6 : decode cX8_seek 6 = .ok (.aload_n 0, 1) := by decide +kernel
theorem dX8_seek_7 : decode cX8_seek 7 = .ok (.iconst 0, 1) := by decide +kernel
theorem dX8_seek_8 : decode cX8_seek 8 = .ok (.putfield 29, 3) := by decide +kernel
theorem dX8_seek_11 : decode cX8_seek 11 = .ok (.aload_n 0, 1) := by decide +kernel
theorem dX8_seek_12 : decode cX8_seek 12 = .ok (.getfield 15, 3) := by decide +kernel
theorem dX8_seek_15 : decode cX8_seek 15 = .ok (.bipush 7, 2) := by decide +kernel
theorem dX8_seek_17 : decode cX8_seek 17 = .ok (.invokestatic 32, 3) := by decide +kernel
theorem dX8_seek_20 : decode cX8_seek 20 = .ok (.aload_n 0, 1) := by decide +kernel
theorem dX8_seek_21 : decode cX8_seek 21 = .ok (.iload_n 1, 1) := by decide +kernel
theorem dX8_seek_22 : decode cX8_seek 22 = .ok (.iconst 0, 1) := by decide +kernel
theorem dX8_seek_23 : decode cX8_seek 23 = .ok (.iconst 0, 1) := by decide +kernel
theorem dX8_seek_24 : decode cX8_seek 24 = .ok (.iconst 0, 1) := by decide +kernel
theorem dX8_seek_25 : decode cX8_seek 25 = .ok (.invokevirtual 38, 3) := by decide +kernel
theorem dX8_seek_28 : decode cX8_seek 28 = .ok (.return_, 1) := by decide +kernel
set_option maxRecDepth 20000 in
theorem ggX8_draw_X8_weigh : GoodIn wsX8_draw wsX8_weigh := goodIn_r _ [7, 1, 8, 2, 9, 10, 11, 12, 13, 32, 33, 34, 35, 36] (by decide +kernel) (by decide +kernel)
set_option maxRecDepth 20000 in
theorem gX8_draw_X8_weigh : GoodIn wsX8_draw (wsV RX8 42 RX8 yX8_weigh wsX8_weigh) := goodIn_app (goodIn_of _ (by decide +kernel)) ggX8_draw_X8_weigh
set_option maxRecDepth 20000 in
theorem ggX8_draw_X9_isOf : GoodIn wsX8_draw wsX9_isOf := goodIn_r _ [16, 17, 18, 15, 19] (by decide +kernel) (by decide +kernel)
set_option maxRecDepth 20000 in
theorem gX8_draw_X9_isOf_n46 : GoodIn wsX8_draw (wsX9_isOf) := ggX8_draw_X9_isOf
set_option maxRecDepth 20000 in
theorem ggX8_draw_X8_draw : GoodIn wsX8_draw wsX8_draw := goodIn_r _ [0, 1, 2, 3, 4, 5, 6, 7, 8, 9, 10, 11, 12, 13, 14, 15, 16, 17, 18, 19, 20, 21, 22, 23, 24, 25, 26, 27, 28, 29, 30, 31, 32, 33, 34, 35, 36] (by decide +kernel) (by decide +kernel)
set_option maxRecDepth 20000 in
theorem gX8_draw_X8_draw : GoodIn wsX8_draw (wsV RX8 38 RX8 yX8_draw wsX8_draw) := goodIn_app (goodIn_of _ (by decide +kernel)) ggX8_draw_X8_draw
set_option maxRecDepth 20000 in
theorem ggX8_draw_X8_slipsOf : GoodIn wsX8_draw wsX8_slipsOf := goodIn_r _ [26, 27, 18, 15, 19, 32, 33, 34, 35, 36] (by decide +kernel) (by decide +kernel)
set_option maxRecDepth 20000 in
theorem gX8_draw_X8_slipsOf : GoodIn wsX8_draw (wsV RX8 50 RX8 yX8_slipsOf wsX8_slipsOf) := goodIn_app (goodIn_of _ (by decide +kernel)) ggX8_draw_X8_slipsOf
set_option maxRecDepth 20000 in
theorem ggX8_draw_X8_comesOf : GoodIn wsX8_draw wsX8_comesOf := goodIn_r _ [31, 2, 18, 15, 19, 32, 33, 34, 35, 36] (by decide +kernel) (by decide +kernel)
set_option maxRecDepth 20000 in
theorem gX8_draw_X8_comesOf : GoodIn wsX8_draw (wsV RX8 54 RX8 yX8_comesOf wsX8_comesOf) := goodIn_app (goodIn_of _ (by decide +kernel)) ggX8_draw_X8_comesOf
theorem dX8_draw_0 : decode cX8_draw 0 = .ok (.aload_n 0, 1) := by decide +kernel
theorem dX8_draw_1 : decode cX8_draw 1 = .ok (.getfield 25, 3) := by decide +kernel
theorem dX8_draw_4 : decode cX8_draw 4 = .ok (.ifCond .lt 12, 3) := by decide +kernel
theorem dX8_draw_7 : decode cX8_draw 7 = .ok (.iload_n 3, 1) := by decide +kernel
theorem dX8_draw_8 : decode cX8_draw 8 = .ok (.aload_n 0, 1) := by decide +kernel
theorem dX8_draw_9 : decode cX8_draw 9 = .ok (.getfield 25, 3) := by decide +kernel
theorem dX8_draw_12 : decode cX8_draw 12 = .ok (.if_icmp .le 4, 3) := by decide +kernel
theorem dX8_draw_15 : decode cX8_draw 15 = .ok (.return_, 1) := by decide +kernel
theorem dX8_draw_16 : decode cX8_draw 16 = .ok (.iload_n 2, 1) := by decide +kernel
theorem dX8_draw_17 : decode cX8_draw 17 = .ok (.ifCond .lt 9, 3) := by decide +kernel
theorem dX8_draw_20 : decode cX8_draw 20 = .ok (.iload_n 2, 1) := by decide +kernel
theorem dX8_draw_21 : decode cX8_draw 21 = .ok (.bipush 6, 2) := by decide +kernel
theorem dX8_draw_23 : decode cX8_draw 23 = .ok (.if_icmp .lt 14, 3) := by decide +kernel
theorem dX8_draw_26 : decode cX8_draw 26 = .ok (.iload 4, 2) := by decide +kernel
theorem dX8_draw_28 : decode cX8_draw 28 = .ok (.ifCond .eq 8, 3) := by decide +kernel
theorem dX8_draw_31 : decode cX8_draw 31 = .ok (.aload_n 0, 1) := by decide +kernel
theorem dX8_draw_32 : decode cX8_draw 32 = .ok (.iload_n 3, 1) := by decide +kernel
theorem dX8_draw_33 : decode cX8_draw 33 = .ok (.invokevirtual 42, 3) := by decide +kernel
theorem dX8_draw_36 : decode cX8_draw 36 = .ok (.return_, 1) := by decide +kernel
theorem dX8_draw_37 : decode cX8_draw 37 = .ok (.iload_n 1, 1) := by decide +kernel
theorem dX8_draw_38 : decode cX8_draw 38 = .ok (.iload_n 2, 1) := by decide +kernel
theorem dX8_draw_39 : decode cX8_draw 39 = .ok (.invokestatic 46, 3) := by decide +kernel
theorem dX8_draw_42 : decode cX8_draw 42 = .ok (.ifCond .ne 15, 3) := by decide +kernel
theorem dX8_draw_45 : decode cX8_draw 45 = .ok (.aload_n 0, 1) := by decide +kernel
theorem dX8_draw_46 : decode cX8_draw 46 = .ok (.iload_n 1, 1) := by decide +kernel
theorem dX8_draw_47 : decode cX8_draw 47 = .ok (.iload_n 2, 1) := by decide +kernel
theorem dX8_draw_48 : decode cX8_draw 48 = .ok (.iconst 1, 1) := by decide +kernel
theorem dX8_draw_49 : decode cX8_draw 49 = .ok (.iadd, 1) := by decide +kernel
theorem dX8_draw_50 : decode cX8_draw 50 = .ok (.iload_n 3, 1) := by decide +kernel
theorem dX8_draw_51 : decode cX8_draw 51 = .ok (.iload 4, 2) := by decide +kernel
theorem dX8_draw_53 : decode cX8_draw 53 = .ok (.invokevirtual 38, 3) := by decide +kernel
theorem dX8_draw_56 : decode cX8_draw 56 = .ok (.return_, 1) := by decide +kernel
theorem dX8_draw_57 : decode cX8_draw 57 = .ok (.iconst 0, 1) := by decide +kernel
theorem dX8_draw_58 : decode cX8_draw 58 = .ok (.istore 5, 2) := by decide +kernel
theorem dX8_draw_60 : decode cX8_draw 60 = .ok (.iload 5, 2) := by decide +kernel
theorem dX8_draw_62 : decode cX8_draw 62 = .ok (.bipush 6, 2) := by decide +kernel
theorem dX8_draw_64 : decode cX8_draw 64 = .ok (.if_icmp .ge 64, 3) := by decide +kernel
theorem dX8_draw_67 : decode cX8_draw 67 = .ok (.aload_n 0, 1) := by decide +kernel
theorem dX8_draw_68 : decode cX8_draw 68 = .ok (.iload 5, 2) := by decide +kernel
theorem dX8_draw_70 : decode cX8_draw 70 = .ok (.iload_n 2, 1) := by decide +kernel
theorem dX8_draw_71 : decode cX8_draw 71 = .ok (.invokevirtual 50, 3) := by decide +kernel
theorem dX8_draw_74 : decode cX8_draw 74 = .ok (.istore 6, 2) := by decide +kernel
theorem dX8_draw_76 : decode cX8_draw 76 = .ok (.iload_n 1, 1) := by decide +kernel
theorem dX8_draw_77 : decode cX8_draw 77 = .ok (.iload 5, 2) := by decide +kernel
theorem dX8_draw_79 : decode cX8_draw 79 = .ok (.invokestatic 46, 3) := by decide +kernel
theorem dX8_draw_82 : decode cX8_draw 82 = .ok (.ifCond .eq 40, 3) := by decide +kernel
theorem dX8_draw_85 : decode cX8_draw 85 = .ok (.iload 6, 2) := by decide +kernel
theorem dX8_draw_87 : decode cX8_draw 87 = .ok (.ifCond .lt 35, 3) := by decide +kernel
theorem dX8_draw_90 : decode cX8_draw 90 = .ok (.aload_n 0, 1) := by decide +kernel
theorem dX8_draw_91 : decode cX8_draw 91 = .ok (.iload 5, 2) := by decide +kernel
theorem dX8_draw_93 : decode cX8_draw 93 = .ok (.iload_n 2, 1) := by decide +kernel
theorem dX8_draw_94 : decode cX8_draw 94 = .ok (.invokevirtual 54, 3) := by decide +kernel
theorem dX8_draw_97 : decode cX8_draw 97 = .ok (.ifCond .ne 25, 3) := by decide +kernel
theorem dX8_draw_100 : decode cX8_draw 100 = .ok (.aload_n 0, 1) := by decide +kernel
theorem dX8_draw_101 : decode cX8_draw 101 = .ok (.getfield 15, 3) := by decide +kernel
theorem dX8_draw_104 : decode cX8_draw 104 = .ok (.iload_n 2, 1) := by decide +kernel
theorem dX8_draw_105 : decode cX8_draw 105 = .ok (.iload 5, 2) := by decide +kernel
theorem dX8_draw_107 : decode cX8_draw 107 = .ok (.iastore, 1) := by decide +kernel
theorem dX8_draw_108 : decode cX8_draw 108 = .ok (.aload_n 0, 1) := by decide +kernel
theorem dX8_draw_109 : decode cX8_draw 109 = .ok (.iload_n 1, 1) := by decide +kernel
theorem dX8_draw_110 : decode cX8_draw 110 = .ok (.iload_n 2, 1) := by decide +kernel
theorem dX8_draw_111 : decode cX8_draw 111 = .ok (.iconst 1, 1) := by decide +kernel
theorem dX8_draw_112 : decode cX8_draw 112 = .ok (.iadd, 1) := by decide +kernel
theorem dX8_draw_113 : decode cX8_draw 113 = .ok (.iload_n 3, 1) := by decide +kernel
theorem dX8_draw_114 : decode cX8_draw 114 = .ok (.iload 6, 2) := by decide +kernel
theorem dX8_draw_116 : decode cX8_draw 116 = .ok (.iadd, 1) := by decide +kernel
theorem dX8_draw_117 : decode cX8_draw 117 = .ok (.iload 4, 2) := by decide +kernel
theorem dX8_draw_119 : decode cX8_draw 119 = .ok (.invokevirtual 38, 3) := by decide +kernel
theorem dX8_draw_122 : decode cX8_draw 122 = .ok (.iinc 5 1, 3) := by decide +kernel
theorem dX8_draw_125 : decode cX8_draw 125 = .ok (.goto (-65), 3) := by decide +kernel
theorem dX8_draw_128 : decode cX8_draw 128 = .ok (.iload 4, 2) := by decide +kernel
theorem dX8_draw_130 : decode cX8_draw 130 = .ok (.ifCond .ne 21, 3) := by decide +kernel
theorem dX8_draw_133 : decode cX8_draw 133 = .ok (.aload_n 0, 1) := by decide +kernel
theorem dX8_draw_134 : decode cX8_draw 134 = .ok (.getfield 15, 3) := by decide +kernel
theorem dX8_draw_137 : decode cX8_draw 137 = .ok (.iload_n 2, 1) := by decide +kernel
theorem dX8_draw_138 : decode cX8_draw 138 = .ok (.bipush 6, 2) := by decide +kernel
theorem dX8_draw_140 : decode cX8_draw 140 = .ok (.iastore, 1) := by decide +kernel
theorem dX8_draw_141 : decode cX8_draw 141 = .ok (.aload_n 0, 1) := by decide +kernel
theorem dX8_draw_142 : decode cX8_draw 142 = .ok (.iload_n 1, 1) := by decide +kernel
theorem dX8_draw_143 : decode cX8_draw 143 = .ok (.iload_n 2, 1) := by decide +kernel
theorem dX8_draw_144 : decode cX8_draw 144 = .ok (.iconst 1, 1) := by decide +kernel
theorem dX8_draw_145 : decode cX8_draw 145 = .ok (.iadd, 1) := by decide +kernel
theorem dX8_draw_146 : decode cX8_draw 146 = .ok (.iload_n 3, 1) := by decide +kernel
theorem dX8_draw_147 : decode cX8_draw 147 = .ok (.iconst 1, 1) := by decide +kernel
theorem dX8_draw_148 : decode cX8_draw 148 = .ok (.invokevirtual 38, 3) := by decide +kernel
theorem dX8_draw_151 : decode cX8_draw 151 = .ok (.aload_n 0, 1) := by decide +kernel
theorem dX8_draw_152 : decode cX8_draw 152 = .ok (.getfield 15, 3) := by decide +kernel
theorem dX8_draw_155 : decode cX8_draw 155 = .ok (.iload_n 2, 1) := by decide +kernel
theorem dX8_draw_156 : decode cX8_draw 156 = .ok (.bipush 7, 2) := by decide +kernel
theorem dX8_draw_158 : decode cX8_draw 158 = .ok (.iastore, 1) := by decide +kernel
theorem dX8_draw_159 : decode cX8_draw 159 = .ok (.return_, 1) := by decide +kernel
set_option maxRecDepth 20000 in
theorem ggX8_comesOf_X9_isMap : GoodIn wsX8_comesOf wsX9_isMap := goodIn_r _ [4] (by decide +kernel) (by decide +kernel)
set_option maxRecDepth 20000 in
theorem gX8_comesOf_X9_isMap_n21 : GoodIn wsX8_comesOf (wsX9_isMap) := ggX8_comesOf_X9_isMap
theorem dX8_comesOf_0 : decode cX8_comesOf 0 = .ok (.iload_n 1, 1) := by decide +kernel
theorem dX8_comesOf_1 : decode cX8_comesOf 1 = .ok (.istore_n 3, 1) := by decide +kernel
theorem dX8_comesOf_2 : decode cX8_comesOf 2 = .ok (.iconst 0, 1) := by decide +kernel
theorem dX8_comesOf_3 : decode cX8_comesOf 3 = .ok (.istore 4, 2) := by decide +kernel
theorem dX8_comesOf_5 : decode cX8_comesOf 5 = .ok (.iload 4, 2) := by decide +kernel
theorem dX8_comesOf_7 : decode cX8_comesOf 7 = .ok (.bipush 6, 2) := by decide +kernel
theorem dX8_comesOf_9 : decode cX8_comesOf 9 = .ok (.if_icmp .ge 30, 3) := by decide +kernel
theorem dX8_comesOf_12 : decode cX8_comesOf 12 = .ok (.iload_n 3, 1) := by decide +kernel
theorem dX8_comesOf_13 : decode cX8_comesOf 13 = .ok (.invokestatic 21, 3) := by decide +kernel
theorem dX8_comesOf_16 : decode cX8_comesOf 16 = .ok (.ifCond .eq 23, 3) := by decide +kernel
theorem dX8_comesOf_19 : decode cX8_comesOf 19 = .ok (.iload_n 3, 1) := by decide +kernel
theorem dX8_comesOf_20 : decode cX8_comesOf 20 = .ok (.iload_n 2, 1) := by decide +kernel
theorem dX8_comesOf_21 : decode cX8_comesOf 21 = .ok (.if_icmp .ne 5, 3) := by decide +kernel
theorem dX8_comesOf_24 : decode cX8_comesOf 24 = .ok (.iconst 1, 1) := by decide +kernel
theorem dX8_comesOf_25 : decode cX8_comesOf 25 = .ok (.ireturn, 1) := by decide +kernel
theorem dX8_comesOf_26 : decode cX8_comesOf 26 = .ok (.aload_n 0, 1) := by decide +kernel
theorem dX8_comesOf_27 : decode cX8_comesOf 27 = .ok (.getfield 15, 3) := by decide +kernel
theorem dX8_comesOf_30 : decode cX8_comesOf 30 = .ok (.iload_n 3, 1) := by decide +kernel
theorem dX8_comesOf_31 : decode cX8_comesOf 31 = .ok (.iaload, 1) := by decide +kernel
theorem dX8_comesOf_32 : decode cX8_comesOf 32 = .ok (.istore_n 3, 1) := by decide +kernel
theorem dX8_comesOf_33 : decode cX8_comesOf 33 = .ok (.iinc 4 1, 3) := by decide +kernel
theorem dX8_comesOf_36 : decode cX8_comesOf 36 = .ok (.goto (-31), 3) := by decide +kernel
theorem dX8_comesOf_39 : decode cX8_comesOf 39 = .ok (.iconst 0, 1) := by decide +kernel
theorem dX8_comesOf_40 : decode cX8_comesOf 40 = .ok (.ireturn, 1) := by decide +kernel
theorem dX8_weigh_0 : decode cX8_weigh 0 = .ok (.aload_n 0, 1) := by decide +kernel
theorem dX8_weigh_1 : decode cX8_weigh 1 = .ok (.getfield 25, 3) := by decide +kernel
theorem dX8_weigh_4 : decode cX8_weigh 4 = .ok (.ifCond .lt 11, 3) := by decide +kernel
theorem dX8_weigh_7 : decode cX8_weigh 7 = .ok (.iload_n 1, 1) := by decide +kernel
theorem dX8_weigh_8 : decode cX8_weigh 8 = .ok (.aload_n 0, 1) := by decide +kernel
theorem dX8_weigh_9 : decode cX8_weigh 9 = .ok (.getfield 25, 3) := by decide +kernel
theorem dX8_weigh_12 : decode cX8_weigh 12 = .ok (.if_icmp .ge 28, 3) := by decide +kernel
theorem dX8_weigh_15 : decode cX8_weigh 15 = .ok (.aload_n 0, 1) := by decide +kernel
theorem dX8_weigh_16 : decode cX8_weigh 16 = .ok (.iload_n 1, 1) := by decide +kernel
theorem dX8_weigh_17 : decode cX8_weigh 17 = .ok (.putfield 25, 3) := by decide +kernel
theorem dX8_weigh_20 : decode cX8_weigh 20 = .ok (.aload_n 0, 1) := by decide +kernel
theorem dX8_weigh_21 : decode cX8_weigh 21 = .ok (.iconst 0, 1) := by decide +kernel
theorem dX8_weigh_22 : decode cX8_weigh 22 = .ok (.putfield 29, 3) := by decide +kernel
theorem dX8_weigh_25 : decode cX8_weigh 25 = .ok (.aload_n 0, 1) := by decide +kernel
theorem dX8_weigh_26 : decode cX8_weigh 26 = .ok (.getfield 15, 3) := by decide +kernel
theorem dX8_weigh_29 : decode cX8_weigh 29 = .ok (.iconst 0, 1) := by decide +kernel
theorem dX8_weigh_30 : decode cX8_weigh 30 = .ok (.aload_n 0, 1) := by decide +kernel
theorem dX8_weigh_31 : decode cX8_weigh 31 = .ok (.getfield 18, 3) := by decide +kernel
theorem dX8_weigh_34 : decode cX8_weigh 34 = .ok (.iconst 0, 1) := by decide +kernel
theorem dX8_weigh_35 : decode cX8_weigh 35 = .ok (.bipush 6, 2) := by decide +kernel
theorem dX8_weigh_37 : decode cX8_weigh 37 = .ok (.invokestatic 57, 3) := by decide +kernel
theorem dX8_weigh_40 : decode cX8_weigh 40 = .ok (.aload_n 0, 1) := by decide +kernel
theorem dX8_weigh_41 : decode cX8_weigh 41 = .ok (.dup, 1) := by decide +kernel
theorem dX8_weigh_42 : decode cX8_weigh 42 = .ok (.getfield 29, 3) := by decide +kernel
theorem dX8_weigh_45 : decode cX8_weigh 45 = .ok (.iconst 1, 1) := by decide +kernel
theorem dX8_weigh_46 : decode cX8_weigh 46 = .ok (.iadd, 1) := by decide +kernel
theorem dX8_weigh_47 : decode cX8_weigh 47 = .ok (.putfield 29, 3) := by decide +kernel
theorem dX8_weigh_50 : decode cX8_weigh 50 = .ok (.return_, 1) := by decide +kernel
set_option maxRecDepth 20000 in
theorem ggX8_answer_X9_isMap : GoodIn wsX8_answer wsX9_isMap := goodIn_r _ [6] (by decide +kernel) (by decide +kernel)
set_option maxRecDepth 20000 in
theorem gX8_answer_X9_isMap_n21 : GoodIn wsX8_answer (wsX9_isMap) := ggX8_answer_X9_isMap
theorem dX8_answer_0 : decode cX8_answer 0 = .ok (.aload_n 0, 1) := by decide +kernel
theorem dX8_answer_1 : decode cX8_answer 1 = .ok (.getfield 25, 3) := by decide +kernel
theorem dX8_answer_4 : decode cX8_answer 4 = .ok (.ifCond .ge 6, 3) := by decide +kernel
theorem dX8_answer_7 : decode cX8_answer 7 = .ok (.bipush (-6), 2) := by decide +kernel
theorem dX8_answer_9 : decode cX8_answer 9 = .ok (.ireturn, 1) := by decide +kernel
theorem dX8_answer_10 : decode cX8_answer 10 = .ok (.iload_n 1, 1) := by decide +kernel
theorem dX8_answer_11 : decode cX8_answer 11 = .ok (.bipush 10, 2) := by decide +kernel
theorem dX8_answer_13 : decode cX8_answer 13 = .ok (.if_icmp .ge 19, 3) := by decide +kernel
theorem dX8_answer_16 : decode cX8_answer 16 = .ok (.iload_n 1, 1) := by decide +kernel
theorem dX8_answer_17 : decode cX8_answer 17 = .ok (.ifCond .ne 10, 3) := by decide +kernel
theorem dX8_answer_20 : decode cX8_answer 20 = .ok (.aload_n 0, 1) := by decide +kernel
theorem dX8_answer_21 : decode cX8_answer 21 = .ok (.getfield 25, 3) := by decide +kernel
theorem dX8_answer_24 : decode cX8_answer 24 = .ok (.goto 7, 3) := by decide +kernel
theorem dX8_answer_27 : decode cX8_answer 27 = .ok (.aload_n 0, 1) := by decide +kernel
theorem dX8_answer_28 : decode cX8_answer 28 = .ok (.getfield 29, 3) := by decide +kernel
theorem dX8_answer_31 : decode cX8_answer 31 = .ok (.ireturn, 1) := by decide +kernel
theorem dX8_answer_32 : decode cX8_answer 32 = .ok (.iload_n 1, 1) := by decide +kernel
theorem dX8_answer_33 : decode cX8_answer 33 = .ok (.bipush 10, 2) := by decide +kernel
theorem dX8_answer_35 : decode cX8_answer 35 = .ok (.isub, 1) := by decide +kernel
theorem dX8_answer_36 : decode cX8_answer 36 = .ok (.istore_n 2, 1) := by decide +kernel
theorem dX8_answer_37 : decode cX8_answer 37 = .ok (.iload_n 2, 1) := by decide +kernel
theorem dX8_answer_38 : decode cX8_answer 38 = .ok (.invokestatic 21, 3) := by decide +kernel
theorem dX8_answer_41 : decode cX8_answer 41 = .ok (.ifCond .eq 24, 3) := by decide +kernel
theorem dX8_answer_44 : decode cX8_answer 44 = .ok (.aload_n 0, 1) := by decide +kernel
theorem dX8_answer_45 : decode cX8_answer 45 = .ok (.getfield 18, 3) := by decide +kernel
theorem dX8_answer_48 : decode cX8_answer 48 = .ok (.iload_n 2, 1) := by decide +kernel
theorem dX8_answer_49 : decode cX8_answer 49 = .ok (.iaload, 1) := by decide +kernel
theorem dX8_answer_50 : decode cX8_answer 50 = .ok (.invokestatic 21, 3) := by decide +kernel
theorem dX8_answer_53 : decode cX8_answer 53 = .ok (.ifCond .eq 12, 3) := by decide +kernel
theorem dX8_answer_56 : decode cX8_answer 56 = .ok (.aload_n 0, 1) := by decide +kernel
theorem dX8_answer_57 : decode cX8_answer 57 = .ok (.getfield 18, 3) := by decide +kernel
theorem dX8_answer_60 : decode cX8_answer 60 = .ok (.iload_n 2, 1) := by decide +kernel
theorem dX8_answer_61 : decode cX8_answer 61 = .ok (.iaload, 1) := by decide +kernel
theorem dX8_answer_62 : decode cX8_answer 62 = .ok (.goto 5, 3) := by decide +kernel
theorem dX8_answer_65 : decode cX8_answer 65 = .ok (.bipush (-6), 2) := by decide +kernel
theorem dX8_answer_67 : decode cX8_answer 67 = .ok (.ireturn, 1) := by decide +kernel
