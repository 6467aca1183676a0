/-! decode rows and calls' words -/
theorem dX2_init_0 : decode cX2_init 0 = .ok (.aload_n 0, 1) := by decide +kernel
theorem dX2_init_1 : decode cX2_init 1 = .ok (.invokespecial 3, 3) := by decide +kernel
theorem dX2_init_4 : decode cX2_init 4 = .ok (.return_, 1) := by decide +kernel
theorem dX2_hasJob_0 : decode cX2_hasJob 0 = .ok (.aload_n 0, 1) := by decide +kernel
theorem dX2_hasJob_1 : decode cX2_hasJob 1 = .ok (.getfield 48, 3) := by decide +kernel
theorem dX2_hasJob_4 : decode cX2_hasJob 4 = .ok (.ifnull 7, 3) := by decide +kernel
theorem dX2_hasJob_7 : decode cX2_hasJob 7 = .ok (.iconst 1, 1) := by decide +kernel
theorem dX2_hasJob_8 : decode cX2_hasJob 8 = .ok (.goto 4, 3) := by decide +kernel
theorem dX2_hasJob_11 : decode cX2_hasJob 11 = .ok (.iconst 0, 1) := by decide +kernel
theorem dX2_hasJob_12 : decode cX2_hasJob 12 = .ok (.ireturn, 1) := by decide +kernel
set_option maxRecDepth 20000 in
theorem ggX3_init_X10_init : GoodIn wsX3_init wsX10_init := goodIn_r _ [18, 19, 2, 3, 20, 21, 22, 23, 24] (by decide +kernel) (by decide +kernel)
set_option maxRecDepth 20000 in
theorem gX3_init_X10_init_n11 : GoodIn wsX3_init (wsX10_init) := ggX3_init_X10_init
theorem dX3_init_0 : decode cX3_init 0 = .ok (.aload_n 0, 1) := by decide +kernel
theorem dX3_init_1 : decode cX3_init 1 = .ok (.invokespecial 3, 3) := by decide +kernel
theorem dX3_init_4 : decode cX3_init 4 = .ok (.aload_n 0, 1) := by decide +kernel
theorem dX3_init_5 : decode cX3_init 5 = .ok (.new 9, 3) := by decide +kernel
theorem dX3_init_8 : decode cX3_init 8 = .ok (.dup, 1) := by decide +kernel
theorem dX3_init_9 : decode cX3_init 9 = .ok (.invokespecial 11, 3) := by decide +kernel
theorem dX3_init_12 : decode cX3_init 12 = .ok (.putfield 12, 3) := by decide +kernel
theorem dX3_init_15 : decode cX3_init 15 = .ok (.aload_n 0, 1) := by decide +kernel
theorem dX3_init_16 : decode cX3_init 16 = .ok (.sipush 128, 3) := by decide +kernel
theorem dX3_init_19 : decode cX3_init 19 = .ok (.anewarray 18, 3) := by decide +kernel
theorem dX3_init_22 : decode cX3_init 22 = .ok (.putfield 20, 3) := by decide +kernel
theorem dX3_init_25 : decode cX3_init 25 = .ok (.aload_n 0, 1) := by decide +kernel
theorem dX3_init_26 : decode cX3_init 26 = .ok (.bipush 8, 2) := by decide +kernel
theorem dX3_init_28 : decode cX3_init 28 = .ok (.newarray .int, 2) := by decide +kernel
theorem dX3_init_30 : decode cX3_init 30 = .ok (.putfield 24, 3) := by decide +kernel
theorem dX3_init_33 : decode cX3_init 33 = .ok (.aload_n 0, 1) := by decide +kernel
theorem dX3_init_34 : decode cX3_init 34 = .ok (.bipush 30, 2) := by decide +kernel
theorem dX3_init_36 : decode cX3_init 36 = .ok (.newarray .int, 2) := by decide +kernel
theorem dX3_init_38 : decode cX3_init 38 = .ok (.putfield 28, 3) := by decide +kernel
theorem dX3_init_41 : decode cX3_init 41 = .ok (.aload_n 0, 1) := by decide +kernel
theorem dX3_init_42 : decode cX3_init 42 = .ok (.sipush 400, 3) := by decide +kernel
theorem dX3_init_45 : decode cX3_init 45 = .ok (.newarray .int, 2) := by decide +kernel
theorem dX3_init_47 : decode cX3_init 47 = .ok (.putfield 31, 3) := by decide +kernel
theorem dX3_init_50 : decode cX3_init 50 = .ok (.aload_n 0, 1) := by decide +kernel
theorem dX3_init_51 : decode cX3_init 51 = .ok (.aload_n 1, 1) := by decide +kernel
theorem dX3_init_52 : decode cX3_init 52 = .ok (.putfield 34, 3) := by decide +kernel
theorem dX3_init_55 : decode cX3_init 55 = .ok (.aload_n 0, 1) := by decide +kernel
theorem dX3_init_56 : decode cX3_init 56 = .ok (.aload_n 2, 1) := by decide +kernel
theorem dX3_init_57 : decode cX3_init 57 = .ok (.putfield 38, 3) := by decide +kernel
theorem dX3_init_60 : decode cX3_init 60 = .ok (.aload_n 0, 1) := by decide +kernel
theorem dX3_init_61 : decode cX3_init 61 = .ok (.aload_n 3, 1) := by decide +kernel
theorem dX3_init_62 : decode cX3_init 62 = .ok (.putfield 42, 3) := by decide +kernel
theorem dX3_init_65 : decode cX3_init 65 = .ok (.return_, 1) := by decide +kernel
theorem dX5_init_0 : decode cX5_init 0 = .ok (.aload_n 0, 1) := by decide +kernel
theorem dX5_init_1 : decode cX5_init 1 = .ok (.invokespecial 3, 3) := by decide +kernel
theorem dX5_init_4 : decode cX5_init 4 = .ok (.aload_n 0, 1) := by decide +kernel
theorem dX5_init_5 : decode cX5_init 5 = .ok (.bipush 60, 2) := by decide +kernel
theorem dX5_init_7 : decode cX5_init 7 = .ok (.anewarray 9, 3) := by decide +kernel
theorem dX5_init_10 : decode cX5_init 10 = .ok (.putfield 11, 3) := by decide +kernel
theorem dX5_init_13 : decode cX5_init 13 = .ok (.aload_n 0, 1) := by decide +kernel
theorem dX5_init_14 : decode cX5_init 14 = .ok (.bipush 60, 2) := by decide +kernel
theorem dX5_init_16 : decode cX5_init 16 = .ok (.newarray .int, 2) := by decide +kernel
theorem dX5_init_18 : decode cX5_init 18 = .ok (.putfield 17, 3) := by decide +kernel
theorem dX5_init_21 : decode cX5_init 21 = .ok (.aload_n 0, 1) := by decide +kernel
theorem dX5_init_22 : decode cX5_init 22 = .ok (.aload_n 1, 1) := by decide +kernel
theorem dX5_init_23 : decode cX5_init 23 = .ok (.putfield 21, 3) := by decide +kernel
theorem dX5_init_26 : decode cX5_init 26 = .ok (.return_, 1) := by decide +kernel
theorem dX5_find_0 : decode cX5_find 0 = .ok (.iload_n 1, 1) := by decide +kernel
theorem dX5_find_1 : decode cX5_find 1 = .ok (.ifCond .lt 17, 3) := by decide +kernel
theorem dX5_find_4 : decode cX5_find 4 = .ok (.iload_n 1, 1) := by decide +kernel
theorem dX5_find_5 : decode cX5_find 5 = .ok (.aload_n 0, 1) := by decide +kernel
theorem dX5_find_6 : decode cX5_find 6 = .ok (.getfield 25, 3) := by decide +kernel
theorem dX5_find_9 : decode cX5_find 9 = .ok (.if_icmp .ge 9, 3) := by decide +kernel
theorem dX5_find_12 : decode cX5_find 12 = .ok (.iload_n 1, 1) := by decide +kernel
theorem dX5_find_13 : decode cX5_find 13 = .ok (.bipush 60, 2) := by decide +kernel
theorem dX5_find_15 : decode cX5_find 15 = .ok (.if_icmp .lt 7, 3) := by decide +kernel
theorem dX5_find_18 : decode cX5_find 18 = .ok (.aconst_null, 1) := by decide +kernel
theorem dX5_find_19 : decode cX5_find 19 = .ok (.goto 9, 3) := by decide +kernel
theorem dX5_find_22 : decode cX5_find 22 = .ok (.aload_n 0, 1) := by decide +kernel
theorem dX5_find_23 : decode cX5_find 23 = .ok (.getfield 11, 3) := by decide +kernel
theorem dX5_find_26 : decode cX5_find 26 = .ok (.iload_n 1, 1) := by decide +kernel
theorem dX5_find_27 : decode cX5_find 27 = .ok (.aaload, 1) := by decide +kernel
theorem dX5_find_28 : decode cX5_find 28 = .ok (.areturn, 1) := by decide +kernel
set_option maxRecDepth 20000 in
theorem ggX5_isSettledClean_X5_find : GoodIn wsX5_isSettledClean wsX5_find := goodIn_r _ [8, 1, 9, 10, 11, 12, 13, 14, 15, 16, 17] (by decide +kernel) (by decide +kernel)
set_option maxRecDepth 20000 in
theorem gX5_isSettledClean_X5_find : GoodIn wsX5_isSettledClean (wsV RX5 29 RX5 yX5_find wsX5_find) := goodIn_app (goodIn_of _ (by decide +kernel)) ggX5_isSettledClean_X5_find
theorem dX5_isSettledClean_0 : decode cX5_isSettledClean 0 = .ok (.iconst 0, 1) := by decide +kernel
theorem dX5_isSettledClean_1 : decode cX5_isSettledClean 1 = .ok (.istore_n 1, 1) := by decide +kernel
theorem dX5_isSettledClean_2 : decode cX5_isSettledClean 2 = .ok (.iload_n 1, 1) := by decide +kernel
theorem dX5_isSettledClean_3 : decode cX5_isSettledClean 3 = .ok (.aload_n 0, 1) := by decide +kernel
theorem dX5_isSettledClean_4 : decode cX5_isSettledClean 4 = .ok (.getfield 25, 3) := by decide +kernel
theorem dX5_isSettledClean_7 : decode cX5_isSettledClean 7 = .ok (.if_icmp .ge 37, 3) := by decide +kernel
theorem dX5_isSettledClean_10 : decode cX5_isSettledClean 10 = .ok (.aload_n 0, 1) := by decide +kernel
theorem dX5_isSettledClean_11 : decode cX5_isSettledClean 11 = .ok (.iload_n 1, 1) := by decide +kernel
theorem dX5_isSettledClean_12 : decode cX5_isSettledClean 12 = .ok (.invokevirtual 29, 3) := by decide +kernel
theorem dX5_isSettledClean_15 : decode cX5_isSettledClean 15 = .ok (.astore_n 2, 1) := by decide +kernel
theorem dX5_isSettledClean_16 : decode cX5_isSettledClean 16 = .ok (.aload_n 2, 1) := by decide +kernel
theorem dX5_isSettledClean_17 : decode cX5_isSettledClean 17 = .ok (.ifnull 21, 3) := by decide +kernel
theorem dX5_isSettledClean_20 : decode cX5_isSettledClean 20 = .ok (.aload_n 2, 1) := by decide +kernel
theorem dX5_isSettledClean_21 : decode cX5_isSettledClean 21 = .ok (.getfield 67, 3) := by decide +kernel
theorem dX5_isSettledClean_24 : decode cX5_isSettledClean 24 = .ok (.bipush 119, 2) := by decide +kernel
theorem dX5_isSettledClean_26 : decode cX5_isSettledClean 26 = .ok (.if_icmp .eq 12, 3) := by decide +kernel
theorem dX5_isSettledClean_29 : decode cX5_isSettledClean 29 = .ok (.aload_n 2, 1) := by decide +kernel
theorem dX5_isSettledClean_30 : decode cX5_isSettledClean 30 = .ok (.getfield 77, 3) := by decide +kernel
theorem dX5_isSettledClean_33 : decode cX5_isSettledClean 33 = .ok (.ifnull 5, 3) := by decide +kernel
theorem dX5_isSettledClean_36 : decode cX5_isSettledClean 36 = .ok (.iconst 0, 1) := by decide +kernel
theorem dX5_isSettledClean_37 : decode cX5_isSettledClean 37 = .ok (.ireturn, 1) := by decide +kernel
theorem dX5_isSettledClean_38 : decode cX5_isSettledClean 38 = .ok (.iinc 1 1, 3) := by decide +kernel
theorem dX5_isSettledClean_41 : decode cX5_isSettledClean 41 = .ok (.goto (-39), 3) := by decide +kernel
theorem dX5_isSettledClean_44 : decode cX5_isSettledClean 44 = .ok (.iconst 1, 1) := by decide +kernel
theorem dX5_isSettledClean_45 : decode cX5_isSettledClean 45 = .ok (.ireturn, 1) := by decide +kernel
set_option maxRecDepth 20000 in
theorem ggX7_init_J7_fill_53178 : GoodIn wsX7_init wsJ7_fill_53178 := goodIn_r _ [15] (by decide +kernel) (by decide +kernel)
set_option maxRecDepth 20000 in
theorem gX7_init_J7_fill_53178 : GoodIn wsX7_init (va_wsS RX7 32 yJ7_fill_53178 wsJ7_fill_53178) := goodIn_app (goodIn_of _ (by decide +kernel)) ggX7_init_J7_fill_53178
theorem dX7_init_0 : decode cX7_init 0 = .ok (.aload_n 0, 1) := by decide +kernel
theorem dX7_init_1 : decode cX7_init 1 = .ok (.invokespecial 3, 3) := by decide +kernel
theorem dX7_init_4 : decode cX7_init 4 = .ok (.aload_n 0, 1) := by decide +kernel
theorem dX7_init_5 : decode cX7_init 5 = .ok (.aload_n 1, 1) := by decide +kernel
theorem dX7_init_6 : decode cX7_init 6 = .ok (.putfield 9, 3) := by decide +kernel
theorem dX7_init_9 : decode cX7_init 9 = .ok (.aload_n 0, 1) := by decide +kernel
theorem dX7_init_10 : decode cX7_init 10 = .ok (.aload_n 2, 1) := by decide +kernel
theorem dX7_init_11 : decode cX7_init 11 = .ok (.putfield 15, 3) := by decide +kernel
theorem dX7_init_14 : decode cX7_init 14 = .ok (.aload_n 0, 1) := by decide +kernel
theorem dX7_init_15 : decode cX7_init 15 = .ok (.iconst 4, 1) := by decide +kernel
theorem dX7_init_16 : decode cX7_init 16 = .ok (.newarray .int, 2) := by decide +kernel
theorem dX7_init_18 : decode cX7_init 18 = .ok (.putfield 18, 3) := by decide +kernel
theorem dX7_init_21 : decode cX7_init 21 = .ok (.aload_n 0, 1) := by decide +kernel
theorem dX7_init_22 : decode cX7_init 22 = .ok (.bipush 20, 2) := by decide +kernel
theorem dX7_init_24 : decode cX7_init 24 = .ok (.newarray .int, 2) := by decide +kernel
theorem dX7_init_26 : decode cX7_init 26 = .ok (.putfield 22, 3) := by decide +kernel
theorem dX7_init_29 : decode cX7_init 29 = .ok (.aload_n 0, 1) := by decide +kernel
theorem dX7_init_30 : decode cX7_init 30 = .ok (.bipush 20, 2) := by decide +kernel
theorem dX7_init_32 : decode cX7_init 32 = .ok (.newarray .int, 2) := by decide +kernel
theorem dX7_init_34 : decode cX7_init 34 = .ok (.putfield 25, 3) := by decide +kernel
theorem dX7_init_37 : decode cX7_init 37 = .ok (.aload_n 0, 1) := by decide +kernel
theorem dX7_init_38 : decode cX7_init 38 = .ok (.bipush 20, 2) := by decide +kernel
theorem dX7_init_40 : decode cX7_init 40 = .ok (.newarray .int, 2) := by decide +kernel
theorem dX7_init_42 : decode cX7_init 42 = .ok (.putfield 28, 3) := by decide +kernel
theorem dX7_init_45 : decode cX7_init 45 = .ok (.aload_n 0, 1) := by decide +kernel
theorem dX7_init_46 : decode cX7_init 46 = .ok (.getfield 18, 3) := by decide +kernel
theorem dX7_init_49 : decode cX7_init 49 = .ok (.ldc 31, 2) := by decide +kernel
theorem dX7_init_51 : decode cX7_init 51 = .ok (.invokestatic 32, 3) := by decide +kernel
theorem dX7_init_54 : decode cX7_init 54 = .ok (.aload_n 0, 1) := by decide +kernel
theorem dX7_init_55 : decode cX7_init 55 = .ok (.getfield 25, 3) := by decide +kernel
theorem dX7_init_58 : decode cX7_init 58 = .ok (.iconst (-1), 1) := by decide +kernel
theorem dX7_init_59 : decode cX7_init 59 = .ok (.invokestatic 32, 3) := by decide +kernel
theorem dX7_init_62 : decode cX7_init 62 = .ok (.return_, 1) := by decide +kernel
theorem dX7_isProxy_0 : decode cX7_isProxy 0 = .ok (.aload_n 0, 1) := by decide +kernel
theorem dX7_isProxy_1 : decode cX7_isProxy 1 = .ok (.getfield 9, 3) := by decide +kernel
theorem dX7_isProxy_4 : decode cX7_isProxy 4 = .ok (.ifnull 7, 3) := by decide +kernel
theorem dX7_isProxy_7 : decode cX7_isProxy 7 = .ok (.iconst 1, 1) := by decide +kernel
theorem dX7_isProxy_8 : decode cX7_isProxy 8 = .ok (.goto 4, 3) := by decide +kernel
theorem dX7_isProxy_11 : decode cX7_isProxy 11 = .ok (.iconst 0, 1) := by decide +kernel
theorem dX7_isProxy_12 : decode cX7_isProxy 12 = .ok (.ireturn, 1) := by decide +kernel
theorem dX7_answerTo_0 : decode cX7_answerTo 0 = .ok (.iload_n 1, 1) := by decide +kernel
theorem dX7_answerTo_1 : decode cX7_answerTo 1 = .ok (.ifCond .lt 8, 3) := by decide +kernel
theorem dX7_answerTo_4 : decode cX7_answerTo 4 = .ok (.iload_n 1, 1) := by decide +kernel
theorem dX7_answerTo_5 : decode cX7_answerTo 5 = .ok (.iconst 4, 1) := by decide +kernel
theorem dX7_answerTo_6 : decode cX7_answerTo 6 = .ok (.if_icmp .lt 8, 3) := by decide +kernel
theorem dX7_answerTo_9 : decode cX7_answerTo 9 = .ok (.ldc 31, 2) := by decide +kernel
theorem dX7_answerTo_11 : decode cX7_answerTo 11 = .ok (.goto 9, 3) := by decide +kernel
theorem dX7_answerTo_14 : decode cX7_answerTo 14 = .ok (.aload_n 0, 1) := by decide +kernel
theorem dX7_answerTo_15 : decode cX7_answerTo 15 = .ok (.getfield 18, 3) := by decide +kernel
theorem dX7_answerTo_18 : decode cX7_answerTo 18 = .ok (.iload_n 1, 1) := by decide +kernel
theorem dX7_answerTo_19 : decode cX7_answerTo 19 = .ok (.iaload, 1) := by decide +kernel
theorem dX7_answerTo_20 : decode cX7_answerTo 20 = .ok (.ireturn, 1) := by decide +kernel
set_option maxRecDepth 20000 in
theorem ggX7_isTold_X7_answerTo : GoodIn wsX7_isTold wsX7_answerTo := goodIn_ca (goodIn_r _ [6, 1, 7, 8, 9, 10, 11, 12, 13, 14, 15, 16] (by decide +kernel) (by decide +kernel)) (goodIn_sub (fun _ h => List.mem_cons_of_mem _ (List.mem_append_right _ h)) (by decide +kernel))
set_option maxRecDepth 20000 in
theorem gX7_isTold_X7_answerTo : GoodIn wsX7_isTold (wsV RX7 38 RX7 yX7_answerTo wsX7_answerTo) := goodIn_app (goodIn_of _ (by decide +kernel)) ggX7_isTold_X7_answerTo
theorem dX7_isTold_0 : decode cX7_isTold 0 = .ok (.aload_n 0, 1) := by decide +kernel
theorem dX7_isTold_1 : decode cX7_isTold 1 = .ok (.iload_n 1, 1) := by decide +kernel
theorem dX7_isTold_2 : decode cX7_isTold 2 = .ok (.invokevirtual 38, 3) := by decide +kernel
theorem dX7_isTold_5 : decode cX7_isTold 5 = .ok (.ldc 31, 2) := by decide +kernel
theorem dX7_isTold_7 : decode cX7_isTold 7 = .ok (.if_icmp .eq 7, 3) := by decide +kernel
theorem dX7_isTold_10 : decode cX7_isTold 10 = .ok (.iconst 1, 1) := by decide +kernel
theorem dX7_isTold_11 : decode cX7_isTold 11 = .ok (.goto 4, 3) := by decide +kernel
theorem dX7_isTold_14 : decode cX7_isTold 14 = .ok (.iconst 0, 1) := by decide +kernel
theorem dX7_isTold_15 : decode cX7_isTold 15 = .ok (.ireturn, 1) := by decide +kernel
theorem dX7_keepAnswer_0 : decode cX7_keepAnswer 0 = .ok (.iload_n 1, 1) := by decide +kernel
theorem dX7_keepAnswer_1 : decode cX7_keepAnswer 1 = .ok (.ifCond .lt 15, 3) := by decide +kernel
theorem dX7_keepAnswer_4 : decode cX7_keepAnswer 4 = .ok (.iload_n 1, 1) := by decide +kernel
theorem dX7_keepAnswer_5 : decode cX7_keepAnswer 5 = .ok (.iconst 4, 1) := by decide +kernel
theorem dX7_keepAnswer_6 : decode cX7_keepAnswer 6 = .ok (.if_icmp .ge 10, 3) := by decide +kernel
theorem dX7_keepAnswer_9 : decode cX7_keepAnswer 9 = .ok (.aload_n 0, 1) := by decide +kernel
theorem dX7_keepAnswer_10 : decode cX7_keepAnswer 10 = .ok (.getfield 18, 3) := by decide +kernel
theorem dX7_keepAnswer_13 : decode cX7_keepAnswer 13 = .ok (.iload_n 1, 1) := by decide +kernel
theorem dX7_keepAnswer_14 : decode cX7_keepAnswer 14 = .ok (.iload_n 2, 1) := by decide +kernel
theorem dX7_keepAnswer_15 : decode cX7_keepAnswer 15 = .ok (.iastore, 1) := by decide +kernel
theorem dX7_keepAnswer_16 : decode cX7_keepAnswer 16 = .ok (.return_, 1) := by decide +kernel
theorem dX7_rightsOf_0 : decode cX7_rightsOf 0 = .ok (.iload_n 1, 1) := by decide +kernel
theorem dX7_rightsOf_1 : decode cX7_rightsOf 1 = .ok (.ifCond .lt 9, 3) := by decide +kernel
theorem dX7_rightsOf_4 : decode cX7_rightsOf 4 = .ok (.iload_n 1, 1) := by decide +kernel
theorem dX7_rightsOf_5 : decode cX7_rightsOf 5 = .ok (.bipush 20, 2) := by decide +kernel
theorem dX7_rightsOf_7 : decode cX7_rightsOf 7 = .ok (.if_icmp .lt 7, 3) := by decide +kernel
theorem dX7_rightsOf_10 : decode cX7_rightsOf 10 = .ok (.iconst (-1), 1) := by decide +kernel
theorem dX7_rightsOf_11 : decode cX7_rightsOf 11 = .ok (.goto 9, 3) := by decide +kernel
theorem dX7_rightsOf_14 : decode cX7_rightsOf 14 = .ok (.aload_n 0, 1) := by decide +kernel
theorem dX7_rightsOf_15 : decode cX7_rightsOf 15 = .ok (.getfield 25, 3) := by decide +kernel
theorem dX7_rightsOf_18 : decode cX7_rightsOf 18 = .ok (.iload_n 1, 1) := by decide +kernel
theorem dX7_rightsOf_19 : decode cX7_rightsOf 19 = .ok (.iaload, 1) := by decide +kernel
theorem dX7_rightsOf_20 : decode cX7_rightsOf 20 = .ok (.ireturn, 1) := by decide +kernel
theorem dX7_valueOf_0 : decode cX7_valueOf 0 = .ok (.iload_n 1, 1) := by decide +kernel
theorem dX7_valueOf_1 : decode cX7_valueOf 1 = .ok (.ifCond .lt 9, 3) := by decide +kernel
theorem dX7_valueOf_4 : decode cX7_valueOf 4 = .ok (.iload_n 1, 1) := by decide +kernel
theorem dX7_valueOf_5 : decode cX7_valueOf 5 = .ok (.bipush 20, 2) := by decide +kernel
theorem dX7_valueOf_7 : decode cX7_valueOf 7 = .ok (.if_icmp .lt 7, 3) := by decide +kernel
theorem dX7_valueOf_10 : decode cX7_valueOf 10 = .ok (.iconst 0, 1) := by decide +kernel
theorem dX7_valueOf_11 : decode cX7_valueOf 11 = .ok (.goto 9, 3) := by decide +kernel
theorem dX7_valueOf_14 : decode cX7_valueOf 14 = .ok (.aload_n 0, 1) := by decide +kernel
theorem dX7_valueOf_15 : decode cX7_valueOf 15 = .ok (.getfield 22, 3) := by decide +kernel
theorem dX7_valueOf_18 : decode cX7_valueOf 18 = .ok (.iload_n 1, 1) := by decide +kernel
theorem dX7_valueOf_19 : decode cX7_valueOf 19 = .ok (.iaload, 1) := by decide +kernel
theorem dX7_valueOf_20 : decode cX7_valueOf 20 = .ok (.ireturn, 1) := by decide +kernel
theorem dX7_holds_0 : decode cX7_holds 0 = .ok (.iload_n 1, 1) := by decide +kernel
theorem dX7_holds_1 : decode cX7_holds 1 = .ok (.ifCond .lt 23, 3) := by decide +kernel
theorem dX7_holds_4 : decode cX7_holds 4 = .ok (.iload_n 1, 1) := by decide +kernel
theorem dX7_holds_5 : decode cX7_holds 5 = .ok (.bipush 20, 2) := by decide +kernel
theorem dX7_holds_7 : decode cX7_holds 7 = .ok (.if_icmp .ge 17, 3) := by decide +kernel
theorem dX7_holds_10 : decode cX7_holds 10 = .ok (.aload_n 0, 1) := by decide +kernel
theorem dX7_holds_11 : decode cX7_holds 11 = .ok (.getfield 25, 3) := by decide +kernel
theorem dX7_holds_14 : decode cX7_holds 14 = .ok (.iload_n 1, 1) := by decide +kernel
theorem dX7_holds_15 : decode cX7_holds 15 = .ok (.iaload, 1) := by decide +kernel
theorem dX7_holds_16 : decode cX7_holds 16 = .ok (.iconst (-1), 1) := by decide +kernel
theorem dX7_holds_17 : decode cX7_holds 17 = .ok (.if_icmp .eq 7, 3) := by decide +kernel
theorem dX7_holds_20 : decode cX7_holds 20 = .ok (.iconst 1, 1) := by decide +kernel
theorem dX7_holds_21 : decode cX7_holds 21 = .ok (.goto 4, 3) := by decide +kernel
theorem dX7_holds_24 : decode cX7_holds 24 = .ok (.iconst 0, 1) := by decide +kernel
theorem dX7_holds_25 : decode cX7_holds 25 = .ok (.ireturn, 1) := by decide +kernel
theorem dX7_canBe_0 : decode cX7_canBe 0 = .ok (.iload_n 2, 1) := by decide +kernel
theorem dX7_canBe_1 : decode cX7_canBe 1 = .ok (.ifCond .lt 34, 3) := by decide +kernel
theorem dX7_canBe_4 : decode cX7_canBe 4 = .ok (.iload_n 2, 1) := by decide +kernel
theorem dX7_canBe_5 : decode cX7_canBe 5 = .ok (.bipush 20, 2) := by decide +kernel
theorem dX7_canBe_7 : decode cX7_canBe 7 = .ok (.if_icmp .ge 28, 3) := by decide +kernel
theorem dX7_canBe_10 : decode cX7_canBe 10 = .ok (.aload_n 0, 1) := by decide +kernel
theorem dX7_canBe_11 : decode cX7_canBe 11 = .ok (.getfield 25, 3) := by decide +kernel
theorem dX7_canBe_14 : decode cX7_canBe 14 = .ok (.iload_n 2, 1) := by decide +kernel
theorem dX7_canBe_15 : decode cX7_canBe 15 = .ok (.iaload, 1) := by decide +kernel
theorem dX7_canBe_16 : decode cX7_canBe 16 = .ok (.iconst (-1), 1) := by decide +kernel
theorem dX7_canBe_17 : decode cX7_canBe 17 = .ok (.if_icmp .eq 18, 3) := by decide +kernel
theorem dX7_canBe_20 : decode cX7_canBe 20 = .ok (.aload_n 0, 1) := by decide +kernel
theorem dX7_canBe_21 : decode cX7_canBe 21 = .ok (.getfield 25, 3) := by decide +kernel
theorem dX7_canBe_24 : decode cX7_canBe 24 = .ok (.iload_n 2, 1) := by decide +kernel
theorem dX7_canBe_25 : decode cX7_canBe 25 = .ok (.iaload, 1) := by decide +kernel
theorem dX7_canBe_26 : decode cX7_canBe 26 = .ok (.iload_n 1, 1) := by decide +kernel
theorem dX7_canBe_27 : decode cX7_canBe 27 = .ok (.iand, 1) := by decide +kernel
theorem dX7_canBe_28 : decode cX7_canBe 28 = .ok (.ifCond .eq 7, 3) := by decide +kernel
theorem dX7_canBe_31 : decode cX7_canBe 31 = .ok (.iconst 1, 1) := by decide +kernel
theorem dX7_canBe_32 : decode cX7_canBe 32 = .ok (.goto 4, 3) := by decide +kernel
theorem dX7_canBe_35 : decode cX7_canBe 35 = .ok (.iconst 0, 1) := by decide +kernel
theorem dX7_canBe_36 : decode cX7_canBe 36 = .ok (.ireturn, 1) := by decide +kernel
set_option maxRecDepth 20000 in
theorem ggX7_keepsOther_X7_holds : GoodIn wsX7_keepsOther wsX7_holds := goodIn_ca (goodIn_r _ [5, 6, 16, 17, 18, 19, 20, 21, 22, 23, 24] (by decide +kernel) (by decide +kernel)) (goodIn_sub (fun _ h => List.mem_cons_of_mem _ (List.mem_append_right _ h)) (by decide +kernel))
set_option maxRecDepth 20000 in
theorem gX7_keepsOther_X7_holds : GoodIn wsX7_keepsOther (wsV RX7 42 RX7 yX7_holds wsX7_holds) := goodIn_app (goodIn_of _ (by decide +kernel)) ggX7_keepsOther_X7_holds
set_option maxRecDepth 20000 in
theorem ggX7_keepsOther_X7_canBe : GoodIn wsX7_keepsOther wsX7_canBe := goodIn_ca (goodIn_r _ [10, 6, 16, 17, 18, 19, 20, 21, 22, 23, 24] (by decide +kernel) (by decide +kernel)) (goodIn_sub (fun _ h => List.mem_cons_of_mem _ (List.mem_append_right _ h)) (by decide +kernel))
set_option maxRecDepth 20000 in
theorem gX7_keepsOther_X7_canBe : GoodIn wsX7_keepsOther (wsV RX7 46 RX7 yX7_canBe wsX7_canBe) := goodIn_app (goodIn_of _ (by decide +kernel)) ggX7_keepsOther_X7_canBe
set_option maxRecDepth 20000 in
theorem ggX7_keepsOther_X7_valueOf : GoodIn wsX7_keepsOther wsX7_valueOf := goodIn_ca (goodIn_r _ [14, 15, 16, 17, 18, 19, 20, 21, 22, 23, 24] (by decide +kernel) (by decide +kernel)) (goodIn_sub (fun _ h => List.mem_cons_of_mem _ (List.mem_append_right _ h)) (by decide +kernel))
set_option maxRecDepth 20000 in
theorem gX7_keepsOther_X7_valueOf : GoodIn wsX7_keepsOther (wsV RX7 50 RX7 yX7_valueOf wsX7_valueOf) := goodIn_app (goodIn_of _ (by decide +kernel)) ggX7_keepsOther_X7_valueOf
theorem dX7_keepsOther_0 : decode cX7_keepsOther 0 = .ok (.aload_n 0, 1) := by decide +kernel
theorem dX7_keepsOther_1 : decode cX7_keepsOther 1 = .ok (.iload_n 1, 1) := by decide +kernel
theorem dX7_keepsOther_2 : decode cX7_keepsOther 2 = .ok (.invokevirtual 42, 3) := by decide +kernel
theorem dX7_keepsOther_5 : decode cX7_keepsOther 5 = .ok (.ifCond .eq 34, 3) := by decide +kernel
theorem dX7_keepsOther_8 : decode cX7_keepsOther 8 = .ok (.aload_n 0, 1) := by decide +kernel
theorem dX7_keepsOther_9 : decode cX7_keepsOther 9 = .ok (.iconst 1, 1) := by decide +kernel
theorem dX7_keepsOther_10 : decode cX7_keepsOther 10 = .ok (.iload_n 1, 1) := by decide +kernel
theorem dX7_keepsOther_11 : decode cX7_keepsOther 11 = .ok (.invokevirtual 46, 3) := by decide +kernel
theorem dX7_keepsOther_14 : decode cX7_keepsOther 14 = .ok (.ifCond .ne 25, 3) := by decide +kernel
theorem dX7_keepsOther_17 : decode cX7_keepsOther 17 = .ok (.aload_n 0, 1) := by decide +kernel
theorem dX7_keepsOther_18 : decode cX7_keepsOther 18 = .ok (.iconst 4, 1) := by decide +kernel
theorem dX7_keepsOther_19 : decode cX7_keepsOther 19 = .ok (.iload_n 1, 1) := by decide +kernel
theorem dX7_keepsOther_20 : decode cX7_keepsOther 20 = .ok (.invokevirtual 46, 3) := by decide +kernel
theorem dX7_keepsOther_23 : decode cX7_keepsOther 23 = .ok (.ifCond .ne 16, 3) := by decide +kernel
theorem dX7_keepsOther_26 : decode cX7_keepsOther 26 = .ok (.aload_n 0, 1) := by decide +kernel
theorem dX7_keepsOther_27 : decode cX7_keepsOther 27 = .ok (.iload_n 1, 1) := by decide +kernel
theorem dX7_keepsOther_28 : decode cX7_keepsOther 28 = .ok (.invokevirtual 50, 3) := by decide +kernel
theorem dX7_keepsOther_31 : decode cX7_keepsOther 31 = .ok (.iload_n 2, 1) := by decide +kernel
theorem dX7_keepsOther_32 : decode cX7_keepsOther 32 = .ok (.if_icmp .eq 7, 3) := by decide +kernel
theorem dX7_keepsOther_35 : decode cX7_keepsOther 35 = .ok (.iconst 1, 1) := by decide +kernel
theorem dX7_keepsOther_36 : decode cX7_keepsOther 36 = .ok (.goto 4, 3) := by decide +kernel
theorem dX7_keepsOther_39 : decode cX7_keepsOther 39 = .ok (.iconst 0, 1) := by decide +kernel
theorem dX7_keepsOther_40 : decode cX7_keepsOther 40 = .ok (.ireturn, 1) := by decide +kernel
set_option maxRecDepth 20000 in
theorem ggX7_keepsKey_X7_holds : GoodIn wsX7_keepsKey wsX7_holds := goodIn_ca (goodIn_r _ [6, 7, 12, 13, 14, 15, 16, 17, 18, 19, 20] (by decide +kernel) (by decide +kernel)) (goodIn_sub (fun _ h => List.mem_cons_of_mem _ (List.mem_append_right _ h)) (by decide +kernel))
set_option maxRecDepth 20000 in
theorem gX7_keepsKey_X7_holds : GoodIn wsX7_keepsKey (wsV RX7 42 RX7 yX7_holds wsX7_holds) := goodIn_app (goodIn_of _ (by decide +kernel)) ggX7_keepsKey_X7_holds
set_option maxRecDepth 20000 in
theorem ggX7_keepsKey_X7_canBe : GoodIn wsX7_keepsKey wsX7_canBe := goodIn_ca (goodIn_r _ [11, 7, 12, 13, 14, 15, 16, 17, 18, 19, 20] (by decide +kernel) (by decide +kernel)) (goodIn_sub (fun _ h => List.mem_cons_of_mem _ (List.mem_append_right _ h)) (by decide +kernel))
set_option maxRecDepth 20000 in
theorem gX7_keepsKey_X7_canBe : GoodIn wsX7_keepsKey (wsV RX7 46 RX7 yX7_canBe wsX7_canBe) := goodIn_app (goodIn_of _ (by decide +kernel)) ggX7_keepsKey_X7_canBe
theorem dX7_keepsKey_0 : decode cX7_keepsKey 0 = .ok (.aload_n 0, 1) := by decide +kernel
theorem dX7_keepsKey_1 : decode cX7_keepsKey 1 = .ok (.iload_n 1, 1) := by decide +kernel
theorem dX7_keepsKey_2 : decode cX7_keepsKey 2 = .ok (.invokevirtual 42, 3) := by decide +kernel
theorem dX7_keepsKey_5 : decode cX7_keepsKey 5 = .ok (.ifCond .eq 23, 3) := by decide +kernel
theorem dX7_keepsKey_8 : decode cX7_keepsKey 8 = .ok (.aload_n 0, 1) := by decide +kernel
theorem dX7_keepsKey_9 : decode cX7_keepsKey 9 = .ok (.getfield 53, 3) := by decide +kernel
theorem dX7_keepsKey_12 : decode cX7_keepsKey 12 = .ok (.ifCond .ne 12, 3) := by decide +kernel
theorem dX7_keepsKey_15 : decode cX7_keepsKey 15 = .ok (.aload_n 0, 1) := by decide +kernel
theorem dX7_keepsKey_16 : decode cX7_keepsKey 16 = .ok (.iconst 4, 1) := by decide +kernel
theorem dX7_keepsKey_17 : decode cX7_keepsKey 17 = .ok (.iload_n 1, 1) := by decide +kernel
theorem dX7_keepsKey_18 : decode cX7_keepsKey 18 = .ok (.invokevirtual 46, 3) := by decide +kernel
theorem dX7_keepsKey_21 : decode cX7_keepsKey 21 = .ok (.ifCond .ne 7, 3) := by decide +kernel
theorem dX7_keepsKey_24 : decode cX7_keepsKey 24 = .ok (.iconst 1, 1) := by decide +kernel
theorem dX7_keepsKey_25 : decode cX7_keepsKey 25 = .ok (.goto 4, 3) := by decide +kernel
theorem dX7_keepsKey_28 : decode cX7_keepsKey 28 = .ok (.iconst 0, 1) := by decide +kernel
theorem dX7_keepsKey_29 : decode cX7_keepsKey 29 = .ok (.ireturn, 1) := by decide +kernel
set_option maxRecDepth 20000 in
theorem ggX7_putIn_X7_holds : GoodIn wsX7_putIn wsX7_holds := goodIn_ca (goodIn_r _ [8, 2, 22, 23, 24, 25, 26, 27, 28, 29, 30] (by decide +kernel) (by decide +kernel)) (goodIn_sub (fun _ h => List.mem_cons_of_mem _ (List.mem_append_right _ h)) (by decide +kernel))
set_option maxRecDepth 20000 in
theorem gX7_putIn_X7_holds : GoodIn wsX7_putIn (wsV RX7 42 RX7 yX7_holds wsX7_holds) := goodIn_app (goodIn_of _ (by decide +kernel)) ggX7_putIn_X7_holds
set_option maxRecDepth 20000 in
theorem ggX7_putIn_X7_listKey : GoodIn wsX7_putIn wsX7_listKey := goodIn_ca (goodIn_r _ [12, 13, 14, 22, 23, 24, 25, 26, 27, 28, 29, 30] (by decide +kernel) (by decide +kernel)) (goodIn_sub (fun _ h => List.mem_cons_of_mem _ (List.mem_append_right _ h)) (by decide +kernel))
set_option maxRecDepth 20000 in
theorem gX7_putIn_X7_listKey : GoodIn wsX7_putIn (wsV RX7 57 RX7 yX7_listKey wsX7_listKey) := goodIn_app (goodIn_of _ (by decide +kernel)) ggX7_putIn_X7_listKey
set_option maxRecDepth 20000 in
theorem ggX7_putIn_X7_canBe : GoodIn wsX7_putIn wsX7_canBe := goodIn_ca (goodIn_r _ [18, 2, 22, 23, 24, 25, 26, 27, 28, 29, 30] (by decide +kernel) (by decide +kernel)) (goodIn_sub (fun _ h => List.mem_cons_of_mem _ (List.mem_append_right _ h)) (by decide +kernel))
set_option maxRecDepth 20000 in
theorem gX7_putIn_X7_canBe : GoodIn wsX7_putIn (wsV RX7 46 RX7 yX7_canBe wsX7_canBe) := goodIn_app (goodIn_of _ (by decide +kernel)) ggX7_putIn_X7_canBe
set_option maxRecDepth 20000 in
theorem ggX7_putIn_X7_isAllowed : GoodIn wsX7_putIn wsX7_isAllowed := goodIn_r _ [21] (by decide +kernel) (by decide +kernel)
set_option maxRecDepth 20000 in
theorem gX7_putIn_X7_isAllowed : GoodIn wsX7_putIn (va_wsS RX7 61 yX7_isAllowed wsX7_isAllowed) := goodIn_app (goodIn_of _ (by decide +kernel)) ggX7_putIn_X7_isAllowed
theorem dX7_putIn_0 : decode cX7_putIn 0 = .ok (.iload_n 1, 1) := by decide +kernel
theorem dX7_putIn_1 : decode cX7_putIn 1 = .ok (.ifCond .lt 9, 3) := by decide +kernel
theorem dX7_putIn_4 : decode cX7_putIn 4 = .ok (.iload_n 1, 1) := by decide +kernel
theorem dX7_putIn_5 : decode cX7_putIn 5 = .ok (.bipush 20, 2) := by decide +kernel
theorem dX7_putIn_7 : decode cX7_putIn 7 = .ok (.if_icmp .lt 6, 3) := by decide +kernel
theorem dX7_putIn_10 : decode cX7_putIn 10 = .ok (.bipush 110, 2) := by decide +kernel
theorem dX7_putIn_12 : decode cX7_putIn 12 = .ok (.ireturn, 1) := by decide +kernel
theorem dX7_putIn_13 : decode cX7_putIn 13 = .ok (.aload_n 0, 1) := by decide +kernel
theorem dX7_putIn_14 : decode cX7_putIn 14 = .ok (.iload_n 1, 1) := by decide +kernel
theorem dX7_putIn_15 : decode cX7_putIn 15 = .ok (.invokevirtual 42, 3) := by decide +kernel
theorem dX7_putIn_18 : decode cX7_putIn 18 = .ok (.ifCond .ne 21, 3) := by decide +kernel
theorem dX7_putIn_21 : decode cX7_putIn 21 = .ok (.aload_n 0, 1) := by decide +kernel
theorem dX7_putIn_22 : decode cX7_putIn 22 = .ok (.getfield 53, 3) := by decide +kernel
theorem dX7_putIn_25 : decode cX7_putIn 25 = .ok (.ifCond .eq 6, 3) := by decide +kernel
theorem dX7_putIn_28 : decode cX7_putIn 28 = .ok (.bipush 110, 2) := by decide +kernel
theorem dX7_putIn_30 : decode cX7_putIn 30 = .ok (.ireturn, 1) := by decide +kernel
theorem dX7_putIn_31 : decode cX7_putIn 31 = .ok (.aload_n 0, 1) := by decide +kernel
theorem dX7_putIn_32 : decode cX7_putIn 32 = .ok (.iload_n 1, 1) := by decide +kernel
theorem dX7_putIn_33 : decode cX7_putIn 33 = .ok (.invokevirtual 57, 3) := by decide +kernel
theorem dX7_putIn_36 : decode cX7_putIn 36 = .ok (.goto 43, 3) := by decide +kernel
theorem dX7_putIn_39 : decode cX7_putIn 39 = .ok (.aload_n 0, 1) := by decide +kernel
theorem dX7_putIn_40 : decode cX7_putIn 40 = .ok (.iconst 4, 1) := by decide +kernel
theorem dX7_putIn_41 : decode cX7_putIn 41 = .ok (.iload_n 1, 1) := by decide +kernel
theorem dX7_putIn_42 : decode cX7_putIn 42 = .ok (.invokevirtual 46, 3) := by decide +kernel
theorem dX7_putIn_45 : decode cX7_putIn 45 = .ok (.ifCond .ne 34, 3) := by decide +kernel
theorem dX7_putIn_48 : decode cX7_putIn 48 = .ok (.aload_n 0, 1) := by decide +kernel
theorem dX7_putIn_49 : decode cX7_putIn 49 = .ok (.getfield 25, 3) := by decide +kernel
theorem dX7_putIn_52 : decode cX7_putIn 52 = .ok (.iload_n 1, 1) := by decide +kernel
theorem dX7_putIn_53 : decode cX7_putIn 53 = .ok (.iaload, 1) := by decide +kernel
theorem dX7_putIn_54 : decode cX7_putIn 54 = .ok (.iload_n 3, 1) := by decide +kernel
theorem dX7_putIn_55 : decode cX7_putIn 55 = .ok (.aload_n 0, 1) := by decide +kernel
theorem dX7_putIn_56 : decode cX7_putIn 56 = .ok (.getfield 22, 3) := by decide +kernel
theorem dX7_putIn_59 : decode cX7_putIn 59 = .ok (.iload_n 1, 1) := by decide +kernel
theorem dX7_putIn_60 : decode cX7_putIn 60 = .ok (.iaload, 1) := by decide +kernel
theorem dX7_putIn_61 : decode cX7_putIn 61 = .ok (.iload_n 2, 1) := by decide +kernel
theorem dX7_putIn_62 : decode cX7_putIn 62 = .ok (.if_icmp .ne 7, 3) := by decide +kernel
theorem dX7_putIn_65 : decode cX7_putIn 65 = .ok (.iconst 1, 1) := by decide +kernel
theorem dX7_putIn_66 : decode cX7_putIn 66 = .ok (.goto 4, 3) := by decide +kernel
theorem dX7_putIn_69 : decode cX7_putIn 69 = .ok (.iconst 0, 1) := by decide +kernel
theorem dX7_putIn_70 : decode cX7_putIn 70 = .ok (.invokestatic 61, 3) := by decide +kernel
theorem dX7_putIn_73 : decode cX7_putIn 73 = .ok (.ifCond .ne 6, 3) := by decide +kernel
theorem dX7_putIn_76 : decode cX7_putIn 76 = .ok (.bipush 110, 2) := by decide +kernel
theorem dX7_putIn_78 : decode cX7_putIn 78 = .ok (.ireturn, 1) := by decide +kernel
theorem dX7_putIn_79 : decode cX7_putIn 79 = .ok (.aload_n 0, 1) := by decide +kernel
theorem dX7_putIn_80 : decode cX7_putIn 80 = .ok (.getfield 22, 3) := by decide +kernel
theorem dX7_putIn_83 : decode cX7_putIn 83 = .ok (.iload_n 1, 1) := by decide +kernel
theorem dX7_putIn_84 : decode cX7_putIn 84 = .ok (.iload_n 2, 1) := by decide +kernel
theorem dX7_putIn_85 : decode cX7_putIn 85 = .ok (.iastore, 1) := by decide +kernel
theorem dX7_putIn_86 : decode cX7_putIn 86 = .ok (.aload_n 0, 1) := by decide +kernel
theorem dX7_putIn_87 : decode cX7_putIn 87 = .ok (.getfield 25, 3) := by decide +kernel
theorem dX7_putIn_90 : decode cX7_putIn 90 = .ok (.iload_n 1, 1) := by decide +kernel
theorem dX7_putIn_91 : decode cX7_putIn 91 = .ok (.iload_n 3, 1) := by decide +kernel
theorem dX7_putIn_92 : decode cX7_putIn 92 = .ok (.iastore, 1) := by decide +kernel
theorem dX7_putIn_93 : decode cX7_putIn 93 = .ok (.bipush 121, 2) := by decide +kernel
theorem dX7_putIn_95 : decode cX7_putIn 95 = .ok (.ireturn, 1) := by decide +kernel
theorem dX7_isAllowed_0 : decode cX7_isAllowed 0 = .ok (.iload_n 1, 1) := by decide +kernel
theorem dX7_isAllowed_1 : decode cX7_isAllowed 1 = .ok (.iconst 4, 1) := by decide +kernel
theorem dX7_isAllowed_2 : decode cX7_isAllowed 2 = .ok (.iand, 1) := by decide +kernel
theorem dX7_isAllowed_3 : decode cX7_isAllowed 3 = .ok (.ifCond .ne 11, 3) := by decide +kernel
theorem dX7_isAllowed_6 : decode cX7_isAllowed 6 = .ok (.iload_n 1, 1) := by decide +kernel
theorem dX7_isAllowed_7 : decode cX7_isAllowed 7 = .ok (.iload_n 0, 1) := by decide +kernel
theorem dX7_isAllowed_8 : decode cX7_isAllowed 8 = .ok (.ixor, 1) := by decide +kernel
theorem dX7_isAllowed_9 : decode cX7_isAllowed 9 = .ok (.iconst 2, 1) := by decide +kernel
theorem dX7_isAllowed_10 : decode cX7_isAllowed 10 = .ok (.iand, 1) := by decide +kernel
theorem dX7_isAllowed_11 : decode cX7_isAllowed 11 = .ok (.ifCond .eq 5, 3) := by decide +kernel
theorem dX7_isAllowed_14 : decode cX7_isAllowed 14 = .ok (.iconst 0, 1) := by decide +kernel
theorem dX7_isAllowed_15 : decode cX7_isAllowed 15 = .ok (.ireturn, 1) := by decide +kernel
theorem dX7_isAllowed_16 : decode cX7_isAllowed 16 = .ok (.iload_n 0, 1) := by decide +kernel
theorem dX7_isAllowed_17 : decode cX7_isAllowed 17 = .ok (.iconst 1, 1) := by decide +kernel
theorem dX7_isAllowed_18 : decode cX7_isAllowed 18 = .ok (.iand, 1) := by decide +kernel
theorem dX7_isAllowed_19 : decode cX7_isAllowed 19 = .ok (.ifCond .ne 13, 3) := by decide +kernel
theorem dX7_isAllowed_22 : decode cX7_isAllowed 22 = .ok (.iload_n 1, 1) := by decide +kernel
theorem dX7_isAllowed_23 : decode cX7_isAllowed 23 = .ok (.iconst 1, 1) := by decide +kernel
theorem dX7_isAllowed_24 : decode cX7_isAllowed 24 = .ok (.iand, 1) := by decide +kernel
theorem dX7_isAllowed_25 : decode cX7_isAllowed 25 = .ok (.ifCond .ne 11, 3) := by decide +kernel
theorem dX7_isAllowed_28 : decode cX7_isAllowed 28 = .ok (.iload_n 2, 1) := by decide +kernel
theorem dX7_isAllowed_29 : decode cX7_isAllowed 29 = .ok (.ifCond .eq 7, 3) := by decide +kernel
theorem dX7_isAllowed_32 : decode cX7_isAllowed 32 = .ok (.iconst 1, 1) := by decide +kernel
theorem dX7_isAllowed_33 : decode cX7_isAllowed 33 = .ok (.goto 4, 3) := by decide +kernel
theorem dX7_isAllowed_36 : decode cX7_isAllowed 36 = .ok (.iconst 0, 1) := by decide +kernel
theorem dX7_isAllowed_37 : decode cX7_isAllowed 37 = .ok (.ireturn, 1) := by decide +kernel
theorem dX7_listKey_0 : decode cX7_listKey 0 = .ok (.aload_n 0, 1) := by decide +kernel
theorem dX7_listKey_1 : decode cX7_listKey 1 = .ok (.getfield 65, 3) := by decide +kernel
theorem dX7_listKey_4 : decode cX7_listKey 4 = .ok (.ifCond .lt 12, 3) := by decide +kernel
theorem dX7_listKey_7 : decode cX7_listKey 7 = .ok (.aload_n 0, 1) := by decide +kernel
theorem dX7_listKey_8 : decode cX7_listKey 8 = .ok (.getfield 65, 3) := by decide +kernel
theorem dX7_listKey_11 : decode cX7_listKey 11 = .ok (.bipush 20, 2) := by decide +kernel
theorem dX7_listKey_13 : decode cX7_listKey 13 = .ok (.if_icmp .lt 4, 3) := by decide +kernel
theorem dX7_listKey_16 : decode cX7_listKey 16 = .ok (.return_, 1) := by decide +kernel
theorem dX7_listKey_17 : decode cX7_listKey 17 = .ok (.aload_n 0, 1) := by decide +kernel
theorem dX7_listKey_18 : decode cX7_listKey 18 = .ok (.getfield 65, 3) := by decide +kernel
theorem dX7_listKey_21 : decode cX7_listKey 21 = .ok (.istore_n 2, 1) := by decide +kernel
theorem dX7_listKey_22 : decode cX7_listKey 22 = .ok (.iload_n 2, 1) := by decide +kernel
theorem dX7_listKey_23 : decode cX7_listKey 23 = .ok (.ifCond .le 41, 3) := by decide +kernel
theorem dX7_listKey_26 : decode cX7_listKey 26 = .ok (.iload_n 1, 1) := by decide +kernel
theorem dX7_listKey_27 : decode cX7_listKey 27 = .ok (.bipush 10, 2) := by decide +kernel
theorem dX7_listKey_29 : decode cX7_listKey 29 = .ok (.if_icmp .ge 35, 3) := by decide +kernel
theorem dX7_listKey_32 : decode cX7_listKey 32 = .ok (.aload_n 0, 1) := by decide +kernel
theorem dX7_listKey_33 : decode cX7_listKey 33 = .ok (.getfield 28, 3) := by decide +kernel
theorem dX7_listKey_36 : decode cX7_listKey 36 = .ok (.iload_n 2, 1) := by decide +kernel
theorem dX7_listKey_37 : decode cX7_listKey 37 = .ok (.iconst 1, 1) := by decide +kernel
theorem dX7_listKey_38 : decode cX7_listKey 38 = .ok (.isub, 1) := by decide +kernel
theorem dX7_listKey_39 : decode cX7_listKey 39 = .ok (.iaload, 1) := by decide +kernel
theorem dX7_listKey_40 : decode cX7_listKey 40 = .ok (.iload_n 1, 1) := by decide +kernel
theorem dX7_listKey_41 : decode cX7_listKey 41 = .ok (.if_icmp .le 23, 3) := by decide +kernel
theorem dX7_listKey_44 : decode cX7_listKey 44 = .ok (.aload_n 0, 1) := by decide +kernel
theorem dX7_listKey_45 : decode cX7_listKey 45 = .ok (.getfield 28, 3) := by decide +kernel
theorem dX7_listKey_48 : decode cX7_listKey 48 = .ok (.iload_n 2, 1) := by decide +kernel
theorem dX7_listKey_49 : decode cX7_listKey 49 = .ok (.aload_n 0, 1) := by decide +kernel
theorem dX7_listKey_50 : decode cX7_listKey 50 = .ok (.getfield 28, 3) := by decide +kernel
theorem dX7_listKey_53 : decode cX7_listKey 53 = .ok (.iload_n 2, 1) := by decide +kernel
theorem dX7_listKey_54 : decode cX7_listKey 54 = .ok (.iconst 1, 1) := by decide +kernel
theorem dX7_listKey_55 : decode cX7_listKey 55 = .ok (.isub, 1) := by decide +kernel
theorem dX7_listKey_56 : decode cX7_listKey 56 = .ok (.iaload, 1) := by decide +kernel
theorem dX7_listKey_57 : decode cX7_listKey 57 = .ok (.iastore, 1) := by decide +kernel
theorem dX7_listKey_58 : decode cX7_listKey 58 = .ok (.iinc 2 (-1), 3) := by decide +kernel
theorem dX7_listKey_61 : decode cX7_listKey 61 = .ok (.goto (-39), 3) := by decide +kernel
theorem dX7_listKey_64 : decode cX7_listKey 64 = .ok (.aload_n 0, 1) := by decide +kernel
theorem dX7_listKey_65 : decode cX7_listKey 65 = .ok (.getfield 28, 3) := by decide +kernel
theorem dX7_listKey_68 : decode cX7_listKey 68 = .ok (.iload_n 2, 1) := by decide +kernel
theorem dX7_listKey_69 : decode cX7_listKey 69 = .ok (.iload_n 1, 1) := by decide +kernel
theorem dX7_listKey_70 : decode cX7_listKey 70 = .ok (.iastore, 1) := by decide +kernel
theorem dX7_listKey_71 : decode cX7_listKey 71 = .ok (.aload_n 0, 1) := by decide +kernel
theorem dX7_listKey_72 : decode cX7_listKey 72 = .ok (.dup, 1) := by decide +kernel
theorem dX7_listKey_73 : decode cX7_listKey 73 = .ok (.getfield 65, 3) := by decide +kernel
theorem dX7_listKey_76 : decode cX7_listKey 76 = .ok (.iconst 1, 1) := by decide +kernel
theorem dX7_listKey_77 : decode cX7_listKey 77 = .ok (.iadd, 1) := by decide +kernel
theorem dX7_listKey_78 : decode cX7_listKey 78 = .ok (.putfield 65, 3) := by decide +kernel
theorem dX7_listKey_81 : decode cX7_listKey 81 = .ok (.return_, 1) := by decide +kernel
theorem dX7_listedAt_0 : decode cX7_listedAt 0 = .ok (.iload_n 1, 1) := by decide +kernel
theorem dX7_listedAt_1 : decode cX7_listedAt 1 = .ok (.ifCond .lt 17, 3) := by decide +kernel
theorem dX7_listedAt_4 : decode cX7_listedAt 4 = .ok (.iload_n 1, 1) := by decide +kernel
theorem dX7_listedAt_5 : decode cX7_listedAt 5 = .ok (.aload_n 0, 1) := by decide +kernel
theorem dX7_listedAt_6 : decode cX7_listedAt 6 = .ok (.getfield 65, 3) := by decide +kernel
theorem dX7_listedAt_9 : decode cX7_listedAt 9 = .ok (.if_icmp .ge 9, 3) := by decide +kernel
theorem dX7_listedAt_12 : decode cX7_listedAt 12 = .ok (.iload_n 1, 1) := by decide +kernel
theorem dX7_listedAt_13 : decode cX7_listedAt 13 = .ok (.bipush 20, 2) := by decide +kernel
theorem dX7_listedAt_15 : decode cX7_listedAt 15 = .ok (.if_icmp .lt 7, 3) := by decide +kernel
theorem dX7_listedAt_18 : decode cX7_listedAt 18 = .ok (.iconst (-1), 1) := by decide +kernel
theorem dX7_listedAt_19 : decode cX7_listedAt 19 = .ok (.goto 9, 3) := by decide +kernel
theorem dX7_listedAt_22 : decode cX7_listedAt 22 = .ok (.aload_n 0, 1) := by decide +kernel
theorem dX7_listedAt_23 : decode cX7_listedAt 23 = .ok (.getfield 28, 3) := by decide +kernel
theorem dX7_listedAt_26 : decode cX7_listedAt 26 = .ok (.iload_n 1, 1) := by decide +kernel
theorem dX7_listedAt_27 : decode cX7_listedAt 27 = .ok (.iaload, 1) := by decide +kernel
theorem dX7_listedAt_28 : decode cX7_listedAt 28 = .ok (.ireturn, 1) := by decide +kernel
set_option maxRecDepth 20000 in
theorem ggX7_takeOut_X7_holds : GoodIn wsX7_takeOut wsX7_holds := goodIn_ca (goodIn_r _ [8, 1, 13, 14, 15, 16, 17, 18, 19, 20, 21] (by decide +kernel) (by decide +kernel)) (goodIn_sub (fun _ h => List.mem_cons_of_mem _ (List.mem_append_right _ h)) (by decide +kernel))
set_option maxRecDepth 20000 in
theorem gX7_takeOut_X7_holds : GoodIn wsX7_takeOut (wsV RX7 42 RX7 yX7_holds wsX7_holds) := goodIn_app (goodIn_of _ (by decide +kernel)) ggX7_takeOut_X7_holds
set_option maxRecDepth 20000 in
theorem ggX7_takeOut_X7_canBe : GoodIn wsX7_takeOut wsX7_canBe := goodIn_ca (goodIn_r _ [12, 1, 13, 14, 15, 16, 17, 18, 19, 20, 21] (by decide +kernel) (by decide +kernel)) (goodIn_sub (fun _ h => List.mem_cons_of_mem _ (List.mem_append_right _ h)) (by decide +kernel))
set_option maxRecDepth 20000 in
theorem gX7_takeOut_X7_canBe : GoodIn wsX7_takeOut (wsV RX7 46 RX7 yX7_canBe wsX7_canBe) := goodIn_app (goodIn_of _ (by decide +kernel)) ggX7_takeOut_X7_canBe
theorem dX7_takeOut_0 : decode cX7_takeOut 0 = .ok (.aload_n 0, 1) := by decide +kernel
theorem dX7_takeOut_1 : decode cX7_takeOut 1 = .ok (.iload_n 1, 1) := by decide +kernel
theorem dX7_takeOut_2 : decode cX7_takeOut 2 = .ok (.invokevirtual 42, 3) := by decide +kernel
theorem dX7_takeOut_5 : decode cX7_takeOut 5 = .ok (.ifCond .ne 6, 3) := by decide +kernel
theorem dX7_takeOut_8 : decode cX7_takeOut 8 = .ok (.bipush 121, 2) := by decide +kernel
theorem dX7_takeOut_10 : decode cX7_takeOut 10 = .ok (.ireturn, 1) := by decide +kernel
theorem dX7_takeOut_11 : decode cX7_takeOut 11 = .ok (.aload_n 0, 1) := by decide +kernel
theorem dX7_takeOut_12 : decode cX7_takeOut 12 = .ok (.iconst 4, 1) := by decide +kernel
theorem dX7_takeOut_13 : decode cX7_takeOut 13 = .ok (.iload_n 1, 1) := by decide +kernel
theorem dX7_takeOut_14 : decode cX7_takeOut 14 = .ok (.invokevirtual 46, 3) := by decide +kernel
theorem dX7_takeOut_17 : decode cX7_takeOut 17 = .ok (.ifCond .ne 6, 3) := by decide +kernel
theorem dX7_takeOut_20 : decode cX7_takeOut 20 = .ok (.bipush 110, 2) := by decide +kernel
theorem dX7_takeOut_22 : decode cX7_takeOut 22 = .ok (.ireturn, 1) := by decide +kernel
theorem dX7_takeOut_23 : decode cX7_takeOut 23 = .ok (.iload_n 1, 1) := by decide +kernel
theorem dX7_takeOut_24 : decode cX7_takeOut 24 = .ok (.ifCond .lt 16, 3) := by decide +kernel
theorem dX7_takeOut_27 : decode cX7_takeOut 27 = .ok (.iload_n 1, 1) := by decide +kernel
theorem dX7_takeOut_28 : decode cX7_takeOut 28 = .ok (.bipush 20, 2) := by decide +kernel
theorem dX7_takeOut_30 : decode cX7_takeOut 30 = .ok (.if_icmp .ge 10, 3) := by decide +kernel
theorem dX7_takeOut_33 : decode cX7_takeOut 33 = .ok (.aload_n 0, 1) := by decide +kernel
theorem dX7_takeOut_34 : decode cX7_takeOut 34 = .ok (.getfield 25, 3) := by decide +kernel
theorem dX7_takeOut_37 : decode cX7_takeOut 37 = .ok (.iload_n 1, 1) := by decide +kernel
theorem dX7_takeOut_38 : decode cX7_takeOut 38 = .ok (.iconst (-1), 1) := by decide +kernel
theorem dX7_takeOut_39 : decode cX7_takeOut 39 = .ok (.iastore, 1) := by decide +kernel
theorem dX7_takeOut_40 : decode cX7_takeOut 40 = .ok (.iconst 0, 1) := by decide +kernel
theorem dX7_takeOut_41 : decode cX7_takeOut 41 = .ok (.istore_n 2, 1) := by decide +kernel
theorem dX7_takeOut_42 : decode cX7_takeOut 42 = .ok (.iconst 0, 1) := by decide +kernel
theorem dX7_takeOut_43 : decode cX7_takeOut 43 = .ok (.istore_n 3, 1) := by decide +kernel
theorem dX7_takeOut_44 : decode cX7_takeOut 44 = .ok (.iload_n 3, 1) := by decide +kernel
theorem dX7_takeOut_45 : decode cX7_takeOut 45 = .ok (.aload_n 0, 1) := by decide +kernel
theorem dX7_takeOut_46 : decode cX7_takeOut 46 = .ok (.getfield 65, 3) := by decide +kernel
theorem dX7_takeOut_49 : decode cX7_takeOut 49 = .ok (.if_icmp .ge 40, 3) := by decide +kernel
theorem dX7_takeOut_52 : decode cX7_takeOut 52 = .ok (.iload_n 3, 1) := by decide +kernel
theorem dX7_takeOut_53 : decode cX7_takeOut 53 = .ok (.bipush 20, 2) := by decide +kernel
theorem dX7_takeOut_55 : decode cX7_takeOut 55 = .ok (.if_icmp .ge 34, 3) := by decide +kernel
theorem dX7_takeOut_58 : decode cX7_takeOut 58 = .ok (.aload_n 0, 1) := by decide +kernel
theorem dX7_takeOut_59 : decode cX7_takeOut 59 = .ok (.getfield 28, 3) := by decide +kernel
theorem dX7_takeOut_62 : decode cX7_takeOut 62 = .ok (.iload_n 3, 1) := by decide +kernel
theorem dX7_takeOut_63 : decode cX7_takeOut 63 = .ok (.iaload, 1) := by decide +kernel
theorem dX7_takeOut_64 : decode cX7_takeOut 64 = .ok (.iload_n 1, 1) := by decide +kernel
theorem dX7_takeOut_65 : decode cX7_takeOut 65 = .ok (.if_icmp .eq 18, 3) := by decide +kernel
theorem dX7_takeOut_68 : decode cX7_takeOut 68 = .ok (.aload_n 0, 1) := by decide +kernel
theorem dX7_takeOut_69 : decode cX7_takeOut 69 = .ok (.getfield 28, 3) := by decide +kernel
theorem dX7_takeOut_72 : decode cX7_takeOut 72 = .ok (.iload_n 2, 1) := by decide +kernel
theorem dX7_takeOut_73 : decode cX7_takeOut 73 = .ok (.aload_n 0, 1) := by decide +kernel
theorem dX7_takeOut_74 : decode cX7_takeOut 74 = .ok (.getfield 28, 3) := by decide +kernel
theorem dX7_takeOut_77 : decode cX7_takeOut 77 = .ok (.iload_n 3, 1) := by decide +kernel
theorem dX7_takeOut_78 : decode cX7_takeOut 78 = .ok (.iaload, 1) := by decide +kernel
theorem dX7_takeOut_79 : decode cX7_takeOut 79 = .ok (.iastore, 1) := by decide +kernel
theorem dX7_takeOut_80 : decode cX7_takeOut 80 = .ok (.iinc 2 1, 3) := by decide +kernel
theorem dX7_takeOut_83 : decode cX7_takeOut 83 = .ok (.iinc 3 1, 3) := by decide +kernel
theorem dX7_takeOut_86 : decode cX7_takeOut 86 = .ok (.goto (-42), 3) := by decide +kernel
theorem dX7_takeOut_89 : decode cX7_takeOut 89 = .ok (.aload_n 0, 1) := by decide +kernel
theorem dX7_takeOut_90 : decode cX7_takeOut 90 = .ok (.iload_n 2, 1) := by decide +kernel
theorem dX7_takeOut_91 : decode cX7_takeOut 91 = .ok (.putfield 65, 3) := by decide +kernel
theorem dX7_takeOut_94 : decode cX7_takeOut 94 = .ok (.bipush 121, 2) := by decide +kernel
theorem dX7_takeOut_96 : decode cX7_takeOut 96 = .ok (.ireturn, 1) := by decide +kernel
set_option maxRecDepth 20000 in
theorem ggX7_isListed_X7_holds : GoodIn wsX7_isListed wsX7_holds := goodIn_ca (goodIn_r _ [6, 7, 17, 18, 19, 20, 21, 22, 23, 24, 25] (by decide +kernel) (by decide +kernel)) (goodIn_sub (fun _ h => List.mem_cons_of_mem _ (List.mem_append_right _ h)) (by decide +kernel))
set_option maxRecDepth 20000 in
theorem gX7_isListed_X7_holds : GoodIn wsX7_isListed (wsV RX7 42 RX7 yX7_holds wsX7_holds) := goodIn_app (goodIn_of _ (by decide +kernel)) ggX7_isListed_X7_holds
set_option maxRecDepth 20000 in
theorem ggX7_isListed_X7_listedAt : GoodIn wsX7_isListed wsX7_listedAt := goodIn_ca (goodIn_r _ [11, 1, 12, 17, 18, 19, 20, 21, 22, 23, 24, 25] (by decide +kernel) (by decide +kernel)) (goodIn_sub (fun _ h => List.mem_cons_of_mem _ (List.mem_append_right _ h)) (by decide +kernel))
set_option maxRecDepth 20000 in
theorem gX7_isListed_X7_listedAt : GoodIn wsX7_isListed (wsV RX7 69 RX7 yX7_listedAt wsX7_listedAt) := goodIn_app (goodIn_of _ (by decide +kernel)) ggX7_isListed_X7_listedAt
set_option maxRecDepth 20000 in
theorem ggX7_isListed_X7_isInOrder : GoodIn wsX7_isListed wsX7_isInOrder := goodIn_ca (goodIn_r _ [16, 8, 9, 10, 5, 11, 1, 12, 17, 18, 19, 20, 21, 22, 23, 24, 25] (by decide +kernel) (by decide +kernel)) (goodIn_sub (fun _ h => List.mem_cons_of_mem _ (List.mem_append_right _ h)) (by decide +kernel))
set_option maxRecDepth 20000 in
theorem gX7_isListed_X7_isInOrder : GoodIn wsX7_isListed (wsV RX7 72 RX7 yX7_isInOrder wsX7_isInOrder) := goodIn_app (goodIn_of _ (by decide +kernel)) ggX7_isListed_X7_isInOrder
theorem dX7_isListed_0 : decode cX7_isListed 0 = .ok (.iconst 0, 1) := by decide +kernel
theorem dX7_isListed_1 : decode cX7_isListed 1 = .ok (.istore_n 1, 1) := by decide +kernel
theorem dX7_isListed_2 : decode cX7_isListed 2 = .ok (.iconst 0, 1) := by decide +kernel
theorem dX7_isListed_3 : decode cX7_isListed 3 = .ok (.istore_n 2, 1) := by decide +kernel
theorem dX7_isListed_4 : decode cX7_isListed 4 = .ok (.iload_n 2, 1) := by decide +kernel
theorem dX7_isListed_5 : decode cX7_isListed 5 = .ok (.bipush 20, 2) := by decide +kernel
theorem dX7_isListed_7 : decode cX7_isListed 7 = .ok (.if_icmp .ge 25, 3) := by decide +kernel
theorem dX7_isListed_10 : decode cX7_isListed 10 = .ok (.iload_n 1, 1) := by decide +kernel
theorem dX7_isListed_11 : decode cX7_isListed 11 = .ok (.aload_n 0, 1) := by decide +kernel
theorem dX7_isListed_12 : decode cX7_isListed 12 = .ok (.iload_n 2, 1) := by decide +kernel
theorem dX7_isListed_13 : decode cX7_isListed 13 = .ok (.invokevirtual 42, 3) := by decide +kernel
theorem dX7_isListed_16 : decode cX7_isListed 16 = .ok (.ifCond .eq 7, 3) := by decide +kernel
theorem dX7_isListed_19 : decode cX7_isListed 19 = .ok (.iconst 1, 1) := by decide +kernel
theorem dX7_isListed_20 : decode cX7_isListed 20 = .ok (.goto 4, 3) := by decide +kernel
theorem dX7_isListed_23 : decode cX7_isListed 23 = .ok (.iconst 0, 1) := by decide +kernel
theorem dX7_isListed_24 : decode cX7_isListed 24 = .ok (.iadd, 1) := by decide +kernel
theorem dX7_isListed_25 : decode cX7_isListed 25 = .ok (.istore_n 1, 1) := by decide +kernel
theorem dX7_isListed_26 : decode cX7_isListed 26 = .ok (.iinc 2 1, 3) := by decide +kernel
theorem dX7_isListed_29 : decode cX7_isListed 29 = .ok (.goto (-25), 3) := by decide +kernel
theorem dX7_isListed_32 : decode cX7_isListed 32 = .ok (.iload_n 1, 1) := by decide +kernel
theorem dX7_isListed_33 : decode cX7_isListed 33 = .ok (.aload_n 0, 1) := by decide +kernel
theorem dX7_isListed_34 : decode cX7_isListed 34 = .ok (.getfield 65, 3) := by decide +kernel
theorem dX7_isListed_37 : decode cX7_isListed 37 = .ok (.if_icmp .eq 5, 3) := by decide +kernel
theorem dX7_isListed_40 : decode cX7_isListed 40 = .ok (.iconst 0, 1) := by decide +kernel
theorem dX7_isListed_41 : decode cX7_isListed 41 = .ok (.ireturn, 1) := by decide +kernel
theorem dX7_isListed_42 : decode cX7_isListed 42 = .ok (.iconst 0, 1) := by decide +kernel
theorem dX7_isListed_43 : decode cX7_isListed 43 = .ok (.istore_n 2, 1) := by decide +kernel
theorem dX7_isListed_44 : decode cX7_isListed 44 = .ok (.iload_n 2, 1) := by decide +kernel
theorem dX7_isListed_45 : decode cX7_isListed 45 = .ok (.aload_n 0, 1) := by decide +kernel
theorem dX7_isListed_46 : decode cX7_isListed 46 = .ok (.getfield 65, 3) := by decide +kernel
theorem dX7_isListed_49 : decode cX7_isListed 49 = .ok (.if_icmp .ge 34, 3) := by decide +kernel
theorem dX7_isListed_52 : decode cX7_isListed 52 = .ok (.aload_n 0, 1) := by decide +kernel
theorem dX7_isListed_53 : decode cX7_isListed 53 = .ok (.iload_n 2, 1) := by decide +kernel
theorem dX7_isListed_54 : decode cX7_isListed 54 = .ok (.invokevirtual 69, 3) := by decide +kernel
theorem dX7_isListed_57 : decode cX7_isListed 57 = .ok (.istore_n 3, 1) := by decide +kernel
theorem dX7_isListed_58 : decode cX7_isListed 58 = .ok (.aload_n 0, 1) := by decide +kernel
theorem dX7_isListed_59 : decode cX7_isListed 59 = .ok (.iload_n 3, 1) := by decide +kernel
theorem dX7_isListed_60 : decode cX7_isListed 60 = .ok (.invokevirtual 42, 3) := by decide +kernel
theorem dX7_isListed_63 : decode cX7_isListed 63 = .ok (.ifCond .eq 12, 3) := by decide +kernel
theorem dX7_isListed_66 : decode cX7_isListed 66 = .ok (.aload_n 0, 1) := by decide +kernel
theorem dX7_isListed_67 : decode cX7_isListed 67 = .ok (.iload_n 2, 1) := by decide +kernel
theorem dX7_isListed_68 : decode cX7_isListed 68 = .ok (.iload_n 3, 1) := by decide +kernel
theorem dX7_isListed_69 : decode cX7_isListed 69 = .ok (.invokevirtual 72, 3) := by decide +kernel
theorem dX7_isListed_72 : decode cX7_isListed 72 = .ok (.ifCond .ne 5, 3) := by decide +kernel
theorem dX7_isListed_75 : decode cX7_isListed 75 = .ok (.iconst 0, 1) := by decide +kernel
theorem dX7_isListed_76 : decode cX7_isListed 76 = .ok (.ireturn, 1) := by decide +kernel
theorem dX7_isListed_77 : decode cX7_isListed 77 = .ok (.iinc 2 1, 3) := by decide +kernel
theorem dX7_isListed_80 : decode cX7_isListed 80 = .ok (.goto (-36), 3) := by decide +kernel
theorem dX7_isListed_83 : decode cX7_isListed 83 = .ok (.iconst 1, 1) := by decide +kernel
theorem dX7_isListed_84 : decode cX7_isListed 84 = .ok (.ireturn, 1) := by decide +kernel
set_option maxRecDepth 20000 in
theorem ggX7_isInOrder_X7_listedAt : GoodIn wsX7_isInOrder wsX7_listedAt := goodIn_ca (goodIn_r _ [5, 6, 7, 8, 9, 10, 11, 12, 13, 14, 15, 16] (by decide +kernel) (by decide +kernel)) (goodIn_sub (fun _ h => List.mem_cons_of_mem _ (List.mem_append_right _ h)) (by decide +kernel))
set_option maxRecDepth 20000 in
theorem gX7_isInOrder_X7_listedAt : GoodIn wsX7_isInOrder (wsV RX7 69 RX7 yX7_listedAt wsX7_listedAt) := goodIn_app (goodIn_of _ (by decide +kernel)) ggX7_isInOrder_X7_listedAt
theorem dX7_isInOrder_0 : decode cX7_isInOrder 0 = .ok (.iconst 0, 1) := by decide +kernel
theorem dX7_isInOrder_1 : decode cX7_isInOrder 1 = .ok (.istore_n 3, 1) := by decide +kernel
theorem dX7_isInOrder_2 : decode cX7_isInOrder 2 = .ok (.iload_n 3, 1) := by decide +kernel
theorem dX7_isInOrder_3 : decode cX7_isInOrder 3 = .ok (.iload_n 1, 1) := by decide +kernel
theorem dX7_isInOrder_4 : decode cX7_isInOrder 4 = .ok (.if_icmp .ge 36, 3) := by decide +kernel
theorem dX7_isInOrder_7 : decode cX7_isInOrder 7 = .ok (.aload_n 0, 1) := by decide +kernel
theorem dX7_isInOrder_8 : decode cX7_isInOrder 8 = .ok (.iload_n 3, 1) := by decide +kernel
theorem dX7_isInOrder_9 : decode cX7_isInOrder 9 = .ok (.invokevirtual 69, 3) := by decide +kernel
theorem dX7_isInOrder_12 : decode cX7_isInOrder 12 = .ok (.istore 4, 2) := by decide +kernel
theorem dX7_isInOrder_14 : decode cX7_isInOrder 14 = .ok (.iload 4, 2) := by decide +kernel
theorem dX7_isInOrder_16 : decode cX7_isInOrder 16 = .ok (.iload_n 2, 1) := by decide +kernel
theorem dX7_isInOrder_17 : decode cX7_isInOrder 17 = .ok (.if_icmp .eq 15, 3) := by decide +kernel
theorem dX7_isInOrder_20 : decode cX7_isInOrder 20 = .ok (.iload_n 2, 1) := by decide +kernel
theorem dX7_isInOrder_21 : decode cX7_isInOrder 21 = .ok (.bipush 10, 2) := by decide +kernel
theorem dX7_isInOrder_23 : decode cX7_isInOrder 23 = .ok (.if_icmp .ge 11, 3) := by decide +kernel
theorem dX7_isInOrder_26 : decode cX7_isInOrder 26 = .ok (.iload 4, 2) := by decide +kernel
theorem dX7_isInOrder_28 : decode cX7_isInOrder 28 = .ok (.iload_n 2, 1) := by decide +kernel
theorem dX7_isInOrder_29 : decode cX7_isInOrder 29 = .ok (.if_icmp .le 5, 3) := by decide +kernel
theorem dX7_isInOrder_32 : decode cX7_isInOrder 32 = .ok (.iconst 0, 1) := by decide +kernel
theorem dX7_isInOrder_33 : decode cX7_isInOrder 33 = .ok (.ireturn, 1) := by decide +kernel
theorem dX7_isInOrder_34 : decode cX7_isInOrder 34 = .ok (.iinc 3 1, 3) := by decide +kernel
theorem dX7_isInOrder_37 : decode cX7_isInOrder 37 = .ok (.goto (-35), 3) := by decide +kernel
theorem dX7_isInOrder_40 : decode cX7_isInOrder 40 = .ok (.iconst 1, 1) := by decide +kernel
theorem dX7_isInOrder_41 : decode cX7_isInOrder 41 = .ok (.ireturn, 1) := by decide +kernel
theorem dX8_init_0 : decode cX8_init 0 = .ok (.aload_n 0, 1) := by decide +kernel
theorem dX8_init_1 : decode cX8_init 1 = .ok (.invokespecial 3, 3) := by decide +kernel
theorem dX8_init_4 : decode cX8_init 4 = .ok (.aload_n 0, 1) := by decide +kernel
theorem dX8_init_5 : decode cX8_init 5 = .ok (.bipush 12, 2) := by decide +kernel
theorem dX8_init_7 : decode cX8_init 7 = .ok (.anewarray 9, 3) := by decide +kernel
theorem dX8_init_10 : decode cX8_init 10 = .ok (.putfield 11, 3) := by decide +kernel
theorem dX8_init_13 : decode cX8_init 13 = .ok (.return_, 1) := by decide +kernel
theorem dX8_find_0 : decode cX8_find 0 = .ok (.iload_n 1, 1) := by decide +kernel
theorem dX8_find_1 : decode cX8_find 1 = .ok (.ifCond .lt 17, 3) := by decide +kernel
theorem dX8_find_4 : decode cX8_find 4 = .ok (.iload_n 1, 1) := by decide +kernel
theorem dX8_find_5 : decode cX8_find 5 = .ok (.aload_n 0, 1) := by decide +kernel
theorem dX8_find_6 : decode cX8_find 6 = .ok (.getfield 17, 3) := by decide +kernel
theorem dX8_find_9 : decode cX8_find 9 = .ok (.if_icmp .ge 9, 3) := by decide +kernel
theorem dX8_find_12 : decode cX8_find 12 = .ok (.iload_n 1, 1) := by decide +kernel
theorem dX8_find_13 : decode cX8_find 13 = .ok (.bipush 12, 2) := by decide +kernel
theorem dX8_find_15 : decode cX8_find 15 = .ok (.if_icmp .lt 7, 3) := by decide +kernel
theorem dX8_find_18 : decode cX8_find 18 = .ok (.aconst_null, 1) := by decide +kernel
theorem dX8_find_19 : decode cX8_find 19 = .ok (.goto 9, 3) := by decide +kernel
theorem dX8_find_22 : decode cX8_find 22 = .ok (.aload_n 0, 1) := by decide +kernel
theorem dX8_find_23 : decode cX8_find 23 = .ok (.getfield 11, 3) := by decide +kernel
theorem dX8_find_26 : decode cX8_find 26 = .ok (.iload_n 1, 1) := by decide +kernel
theorem dX8_find_27 : decode cX8_find 27 = .ok (.aaload, 1) := by decide +kernel
theorem dX8_find_28 : decode cX8_find 28 = .ok (.areturn, 1) := by decide +kernel
theorem dX8_isFull_0 : decode cX8_isFull 0 = .ok (.aload_n 0, 1) := by decide +kernel
theorem dX8_isFull_1 : decode cX8_isFull 1 = .ok (.getfield 17, 3) := by decide +kernel
theorem dX8_isFull_4 : decode cX8_isFull 4 = .ok (.bipush 12, 2) := by decide +kernel
theorem dX8_isFull_6 : decode cX8_isFull 6 = .ok (.if_icmp .lt 7, 3) := by decide +kernel
theorem dX8_isFull_9 : decode cX8_isFull 9 = .ok (.iconst 1, 1) := by decide +kernel
theorem dX8_isFull_10 : decode cX8_isFull 10 = .ok (.goto 4, 3) := by decide +kernel
theorem dX8_isFull_13 : decode cX8_isFull 13 = .ok (.iconst 0, 1) := by decide +kernel
theorem dX8_isFull_14 : decode cX8_isFull 14 = .ok (.ireturn, 1) := by decide +kernel
theorem dX8_append_0 : decode cX8_append 0 = .ok (.aload_n 0, 1) := by decide +kernel
theorem dX8_append_1 : decode cX8_append 1 = .ok (.getfield 17, 3) := by decide +kernel
theorem dX8_append_4 : decode cX8_append 4 = .ok (.ifCond .lt 12, 3) := by decide +kernel
theorem dX8_append_7 : decode cX8_append 7 = .ok (.aload_n 0, 1) := by decide +kernel
theorem dX8_append_8 : decode cX8_append 8 = .ok (.getfield 17, 3) := by decide +kernel
theorem dX8_append_11 : decode cX8_append 11 = .ok (.bipush 12, 2) := by decide +kernel
theorem dX8_append_13 : decode cX8_append 13 = .ok (.if_icmp .lt 5, 3) := by decide +kernel
theorem dX8_append_16 : decode cX8_append 16 = .ok (.iconst (-1), 1) := by decide +kernel
theorem dX8_append_17 : decode cX8_append 17 = .ok (.ireturn, 1) := by decide +kernel
theorem dX8_append_18 : decode cX8_append 18 = .ok (.aload_n 0, 1) := by decide +kernel
theorem dX8_append_19 : decode cX8_append 19 = .ok (.getfield 11, 3) := by decide +kernel
theorem dX8_append_22 : decode cX8_append 22 = .ok (.aload_n 0, 1) := by decide +kernel
theorem dX8_append_23 : decode cX8_append 23 = .ok (.getfield 17, 3) := by decide +kernel
theorem dX8_append_26 : decode cX8_append 26 = .ok (.aload_n 1, 1) := by decide +kernel
theorem dX8_append_27 : decode cX8_append 27 = .ok (.aastore, 1) := by decide +kernel
theorem dX8_append_28 : decode cX8_append 28 = .ok (.aload_n 0, 1) := by decide +kernel
theorem dX8_append_29 : decode cX8_append 29 = .ok (.dup, 1) := by decide +kernel
theorem dX8_append_30 : decode cX8_append 30 = .ok (.getfield 17, 3) := by decide +kernel
theorem dX8_append_33 : decode cX8_append 33 = .ok (.iconst 1, 1) := by decide +kernel
theorem dX8_append_34 : decode cX8_append 34 = .ok (.iadd, 1) := by decide +kernel
theorem dX8_append_35 : decode cX8_append 35 = .ok (.putfield 17, 3) := by decide +kernel
theorem dX8_append_38 : decode cX8_append 38 = .ok (.aload_n 0, 1) := by decide +kernel
theorem dX8_append_39 : decode cX8_append 39 = .ok (.getfield 17, 3) := by decide +kernel
theorem dX8_append_42 : decode cX8_append 42 = .ok (.iconst 1, 1) := by decide +kernel
theorem dX8_append_43 : decode cX8_append 43 = .ok (.isub, 1) := by decide +kernel
theorem dX8_append_44 : decode cX8_append 44 = .ok (.ireturn, 1) := by decide +kernel
set_option maxRecDepth 20000 in
theorem ggX8_plainBehind_X7_isProxy : GoodIn wsX8_plainBehind wsX7_isProxy := goodIn_r _ [7, 8, 9, 10, 11, 12, 13, 14, 15, 16, 17] (by decide +kernel) (by decide +kernel)
set_option maxRecDepth 20000 in
theorem gX8_plainBehind_X7_isProxy : GoodIn wsX8_plainBehind (wsV RX8 21 RX7 yX7_isProxy wsX7_isProxy) := goodIn_app (goodIn_of _ (by decide +kernel)) ggX8_plainBehind_X7_isProxy
theorem dX8_plainBehind_0 : decode cX8_plainBehind 0 = .ok (.aload_n 1, 1) := by decide +kernel
theorem dX8_plainBehind_1 : decode cX8_plainBehind 1 = .ok (.astore_n 2, 1) := by decide +kernel
theorem dX8_plainBehind_2 : decode cX8_plainBehind 2 = .ok (.iconst 0, 1) := by decide +kernel
theorem dX8_plainBehind_3 : decode cX8_plainBehind 3 = .ok (.istore_n 3, 1) := by decide +kernel
theorem dX8_plainBehind_4 : decode cX8_plainBehind 4 = .ok (.iload_n 3, 1) := by decide +kernel
theorem dX8_plainBehind_5 : decode cX8_plainBehind 5 = .ok (.bipush 12, 2) := by decide +kernel
theorem dX8_plainBehind_7 : decode cX8_plainBehind 7 = .ok (.if_icmp .ge 38, 3) := by decide +kernel
theorem dX8_plainBehind_10 : decode cX8_plainBehind 10 = .ok (.aload_n 2, 1) := by decide +kernel
theorem dX8_plainBehind_11 : decode cX8_plainBehind 11 = .ok (.ifnull 34, 3) := by decide +kernel
theorem dX8_plainBehind_14 : decode cX8_plainBehind 14 = .ok (.aload_n 2, 1) := by decide +kernel
theorem dX8_plainBehind_15 : decode cX8_plainBehind 15 = .ok (.invokevirtual 21, 3) := by decide +kernel
theorem dX8_plainBehind_18 : decode cX8_plainBehind 18 = .ok (.ifCond .ne 5, 3) := by decide +kernel
theorem dX8_plainBehind_21 : decode cX8_plainBehind 21 = .ok (.aload_n 2, 1) := by decide +kernel
theorem dX8_plainBehind_22 : decode cX8_plainBehind 22 = .ok (.areturn, 1) := by decide +kernel
theorem dX8_plainBehind_23 : decode cX8_plainBehind 23 = .ok (.aload_n 2, 1) := by decide +kernel
theorem dX8_plainBehind_24 : decode cX8_plainBehind 24 = .ok (.getfield 25, 3) := by decide +kernel
theorem dX8_plainBehind_27 : decode cX8_plainBehind 27 = .ok (.ifCond .eq 7, 3) := by decide +kernel
theorem dX8_plainBehind_30 : decode cX8_plainBehind 30 = .ok (.aconst_null, 1) := by decide +kernel
theorem dX8_plainBehind_31 : decode cX8_plainBehind 31 = .ok (.goto 7, 3) := by decide +kernel
theorem dX8_plainBehind_34 : decode cX8_plainBehind 34 = .ok (.aload_n 2, 1) := by decide +kernel
theorem dX8_plainBehind_35 : decode cX8_plainBehind 35 = .ok (.getfield 29, 3) := by decide +kernel
theorem dX8_plainBehind_38 : decode cX8_plainBehind 38 = .ok (.astore_n 2, 1) := by decide +kernel
theorem dX8_plainBehind_39 : decode cX8_plainBehind 39 = .ok (.iinc 3 1, 3) := by decide +kernel
theorem dX8_plainBehind_42 : decode cX8_plainBehind 42 = .ok (.goto (-38), 3) := by decide +kernel
theorem dX8_plainBehind_45 : decode cX8_plainBehind 45 = .ok (.aconst_null, 1) := by decide +kernel
theorem dX8_plainBehind_46 : decode cX8_plainBehind 46 = .ok (.areturn, 1) := by decide +kernel
set_option maxRecDepth 20000 in
theorem ggX8_getFrom_X7_isProxy : GoodIn wsX8_getFrom wsX7_isProxy := goodIn_r _ [9, 10, 47, 48, 49, 50, 51, 52, 53, 54, 55] (by decide +kernel) (by decide +kernel)
set_option maxRecDepth 20000 in
theorem gX8_getFrom_X7_isProxy : GoodIn wsX8_getFrom (wsV RX8 21 RX7 yX7_isProxy wsX7_isProxy) := goodIn_app (goodIn_of _ (by decide +kernel)) ggX8_getFrom_X7_isProxy
set_option maxRecDepth 20000 in
theorem ggX8_getFrom_X7_isTold : GoodIn wsX8_getFrom wsX7_isTold := goodIn_ca (goodIn_r _ [14, 15, 16, 17, 18, 8, 19, 20, 47, 48, 49, 50, 51, 52, 53, 54, 55] (by decide +kernel) (by decide +kernel)) (goodIn_sub (fun _ h => List.mem_cons_of_mem _ (List.mem_append_right _ h)) (by decide +kernel))
set_option maxRecDepth 20000 in
theorem gX8_getFrom_X7_isTold : GoodIn wsX8_getFrom (wsV RX8 35 RX7 yX7_isTold wsX7_isTold) := goodIn_app (goodIn_of _ (by decide +kernel)) ggX8_getFrom_X7_isTold
set_option maxRecDepth 20000 in
theorem ggX8_getFrom_X7_answerTo : GoodIn wsX8_getFrom wsX7_answerTo := goodIn_ca (goodIn_r _ [19, 15, 20, 47, 48, 49, 50, 51, 52, 53, 54, 55] (by decide +kernel) (by decide +kernel)) (goodIn_sub (fun _ h => List.mem_cons_of_mem _ (List.mem_append_right _ h)) (by decide +kernel))
set_option maxRecDepth 20000 in
theorem gX8_getFrom_X7_answerTo : GoodIn wsX8_getFrom (wsV RX8 39 RX7 yX7_answerTo wsX7_answerTo) := goodIn_app (goodIn_of _ (by decide +kernel)) ggX8_getFrom_X7_answerTo
set_option maxRecDepth 20000 in
theorem ggX8_getFrom_X8_plainBehind : GoodIn wsX8_getFrom wsX8_plainBehind := goodIn_r _ [26, 1, 3, 5, 6, 7, 8, 9, 10, 47, 48, 49, 50, 51, 52, 53, 54, 55] (by decide +kernel) (by decide +kernel)
set_option maxRecDepth 20000 in
theorem gX8_getFrom_X8_plainBehind : GoodIn wsX8_getFrom (wsV RX8 43 RX8 yX8_plainBehind wsX8_plainBehind) := goodIn_app (goodIn_of _ (by decide +kernel)) ggX8_getFrom_X8_plainBehind
set_option maxRecDepth 20000 in
theorem ggX8_getFrom_X7_keepsOther : GoodIn wsX8_getFrom wsX7_keepsOther := goodIn_ca (goodIn_r _ [30, 31, 32, 33, 8, 34, 35, 36, 37, 38, 39, 40, 41, 42, 43, 44, 47, 48, 49, 50, 51, 52, 53, 54, 55] (by decide +kernel) (by decide +kernel)) (goodIn_sub (fun _ h => List.mem_cons_of_mem _ (List.mem_append_right _ h)) (by decide +kernel))
set_option maxRecDepth 20000 in
theorem gX8_getFrom_X7_keepsOther : GoodIn wsX8_getFrom (wsV RX8 47 RX7 yX7_keepsOther wsX7_keepsOther) := goodIn_app (goodIn_of _ (by decide +kernel)) ggX8_getFrom_X7_keepsOther
set_option maxRecDepth 20000 in
theorem ggX8_getFrom_X7_holds : GoodIn wsX8_getFrom wsX7_holds := goodIn_ca (goodIn_r _ [34, 35, 47, 48, 49, 50, 51, 52, 53, 54, 55] (by decide +kernel) (by decide +kernel)) (goodIn_sub (fun _ h => List.mem_cons_of_mem _ (List.mem_append_right _ h)) (by decide +kernel))
set_option maxRecDepth 20000 in
theorem gX8_getFrom_X7_holds : GoodIn wsX8_getFrom (wsV RX8 51 RX7 yX7_holds wsX7_holds) := goodIn_app (goodIn_of _ (by decide +kernel)) ggX8_getFrom_X7_holds
set_option maxRecDepth 20000 in
theorem ggX8_getFrom_X7_valueOf : GoodIn wsX8_getFrom wsX7_valueOf := goodIn_ca (goodIn_r _ [43, 44, 47, 48, 49, 50, 51, 52, 53, 54, 55] (by decide +kernel) (by decide +kernel)) (goodIn_sub (fun _ h => List.mem_cons_of_mem _ (List.mem_append_right _ h)) (by decide +kernel))
set_option maxRecDepth 20000 in
theorem gX8_getFrom_X7_valueOf : GoodIn wsX8_getFrom (wsV RX8 54 RX7 yX7_valueOf wsX7_valueOf) := goodIn_app (goodIn_of _ (by decide +kernel)) ggX8_getFrom_X7_valueOf
theorem dX8_getFrom_0 : decode cX8_getFrom 0 = .ok (.aload_n 1, 1) := by decide +kernel
theorem dX8_getFrom_1 : decode cX8_getFrom 1 = .ok (.astore_n 3, 1) := by decide +kernel
theorem dX8_getFrom_2 : decode cX8_getFrom 2 = .ok (.iconst 0, 1) := by decide +kernel
theorem dX8_getFrom_3 : decode cX8_getFrom 3 = .ok (.istore 4, 2) := by decide +kernel
theorem dX8_getFrom_5 : decode cX8_getFrom 5 = .ok (.iload 4, 2) := by decide +kernel
theorem dX8_getFrom_7 : decode cX8_getFrom 7 = .ok (.bipush 30, 2) := by decide +kernel
theorem dX8_getFrom_9 : decode cX8_getFrom 9 = .ok (.if_icmp .ge 110, 3) := by decide +kernel
theorem dX8_getFrom_12 : decode cX8_getFrom 12 = .ok (.aload_n 3, 1) := by decide +kernel
theorem dX8_getFrom_13 : decode cX8_getFrom 13 = .ok (.ifnull 106, 3) := by decide +kernel
theorem dX8_getFrom_16 : decode cX8_getFrom 16 = .ok (.aload_n 3, 1) := by decide +kernel
theorem dX8_getFrom_17 : decode cX8_getFrom 17 = .ok (.invokevirtual 21, 3) := by decide +kernel
theorem dX8_getFrom_20 : decode cX8_getFrom 20 = .ok (.ifCond .eq 73, 3) := by decide +kernel
theorem dX8_getFrom_23 : decode cX8_getFrom 23 = .ok (.aload_n 3, 1) := by decide +kernel
theorem dX8_getFrom_24 : decode cX8_getFrom 24 = .ok (.getfield 25, 3) := by decide +kernel
theorem dX8_getFrom_27 : decode cX8_getFrom 27 = .ok (.ifCond .eq 7, 3) := by decide +kernel
theorem dX8_getFrom_30 : decode cX8_getFrom 30 = .ok (.ldc2_w 33, 3) := by decide +kernel
theorem dX8_getFrom_33 : decode cX8_getFrom 33 = .ok (.lreturn, 1) := by decide +kernel
theorem dX8_getFrom_34 : decode cX8_getFrom 34 = .ok (.aload_n 3, 1) := by decide +kernel
theorem dX8_getFrom_35 : decode cX8_getFrom 35 = .ok (.iconst 0, 1) := by decide +kernel
theorem dX8_getFrom_36 : decode cX8_getFrom 36 = .ok (.invokevirtual 35, 3) := by decide +kernel
theorem dX8_getFrom_39 : decode cX8_getFrom 39 = .ok (.ifCond .eq 46, 3) := by decide +kernel
theorem dX8_getFrom_42 : decode cX8_getFrom 42 = .ok (.aload_n 3, 1) := by decide +kernel
theorem dX8_getFrom_43 : decode cX8_getFrom 43 = .ok (.iconst 0, 1) := by decide +kernel
theorem dX8_getFrom_44 : decode cX8_getFrom 44 = .ok (.invokevirtual 39, 3) := by decide +kernel
theorem dX8_getFrom_47 : decode cX8_getFrom 47 = .ok (.istore 5, 2) := by decide +kernel
theorem dX8_getFrom_49 : decode cX8_getFrom 49 = .ok (.aload_n 0, 1) := by decide +kernel
theorem dX8_getFrom_50 : decode cX8_getFrom 50 = .ok (.aload_n 3, 1) := by decide +kernel
theorem dX8_getFrom_51 : decode cX8_getFrom 51 = .ok (.getfield 29, 3) := by decide +kernel
theorem dX8_getFrom_54 : decode cX8_getFrom 54 = .ok (.invokevirtual 43, 3) := by decide +kernel
theorem dX8_getFrom_57 : decode cX8_getFrom 57 = .ok (.astore 6, 2) := by decide +kernel
theorem dX8_getFrom_59 : decode cX8_getFrom 59 = .ok (.aload 6, 2) := by decide +kernel
theorem dX8_getFrom_61 : decode cX8_getFrom 61 = .ok (.ifnull 14, 3) := by decide +kernel
theorem dX8_getFrom_64 : decode cX8_getFrom 64 = .ok (.aload 6, 2) := by decide +kernel
theorem dX8_getFrom_66 : decode cX8_getFrom 66 = .ok (.iload_n 2, 1) := by decide +kernel
theorem dX8_getFrom_67 : decode cX8_getFrom 67 = .ok (.iload 5, 2) := by decide +kernel
theorem dX8_getFrom_69 : decode cX8_getFrom 69 = .ok (.invokevirtual 47, 3) := by decide +kernel
theorem dX8_getFrom_72 : decode cX8_getFrom 72 = .ok (.ifCond .eq 9, 3) := by decide +kernel
theorem dX8_getFrom_75 : decode cX8_getFrom 75 = .ok (.ldc2_w 33, 3) := by decide +kernel
theorem dX8_getFrom_78 : decode cX8_getFrom 78 = .ok (.goto 6, 3) := by decide +kernel
theorem dX8_getFrom_81 : decode cX8_getFrom 81 = .ok (.iload 5, 2) := by decide +kernel
theorem dX8_getFrom_83 : decode cX8_getFrom 83 = .ok (.i2l, 1) := by decide +kernel
theorem dX8_getFrom_84 : decode cX8_getFrom 84 = .ok (.lreturn, 1) := by decide +kernel
theorem dX8_getFrom_85 : decode cX8_getFrom 85 = .ok (.aload_n 3, 1) := by decide +kernel
theorem dX8_getFrom_86 : decode cX8_getFrom 86 = .ok (.getfield 29, 3) := by decide +kernel
theorem dX8_getFrom_89 : decode cX8_getFrom 89 = .ok (.astore_n 3, 1) := by decide +kernel
theorem dX8_getFrom_90 : decode cX8_getFrom 90 = .ok (.goto 23, 3) := by decide +kernel
theorem dX8_getFrom_93 : decode cX8_getFrom 93 = .ok (.aload_n 3, 1) := by decide +kernel
theorem dX8_getFrom_94 : decode cX8_getFrom 94 = .ok (.iload_n 2, 1) := by decide +kernel
theorem dX8_getFrom_95 : decode cX8_getFrom 95 = .ok (.invokevirtual 51, 3) := by decide +kernel
theorem dX8_getFrom_98 : decode cX8_getFrom 98 = .ok (.ifCond .eq 10, 3) := by decide +kernel
theorem dX8_getFrom_101 : decode cX8_getFrom 101 = .ok (.aload_n 3, 1) := by decide +kernel
theorem dX8_getFrom_102 : decode cX8_getFrom 102 = .ok (.iload_n 2, 1) := by decide +kernel
theorem dX8_getFrom_103 : decode cX8_getFrom 103 = .ok (.invokevirtual 54, 3) := by decide +kernel
theorem dX8_getFrom_106 : decode cX8_getFrom 106 = .ok (.i2l, 1) := by decide +kernel
theorem dX8_getFrom_107 : decode cX8_getFrom 107 = .ok (.lreturn, 1) := by decide +kernel
theorem dX8_getFrom_108 : decode cX8_getFrom 108 = .ok (.aload_n 3, 1) := by decide +kernel
theorem dX8_getFrom_109 : decode cX8_getFrom 109 = .ok (.getfield 57, 3) := by decide +kernel
theorem dX8_getFrom_112 : decode cX8_getFrom 112 = .ok (.astore_n 3, 1) := by decide +kernel
theorem dX8_getFrom_113 : decode cX8_getFrom 113 = .ok (.iinc 4 1, 3) := by decide +kernel
theorem dX8_getFrom_116 : decode cX8_getFrom 116 = .ok (.goto (-111), 3) := by decide +kernel
theorem dX8_getFrom_119 : decode cX8_getFrom 119 = .ok (.aload_n 3, 1) := by decide +kernel
theorem dX8_getFrom_120 : decode cX8_getFrom 120 = .ok (.ifnonnull 7, 3) := by decide +kernel
theorem dX8_getFrom_123 : decode cX8_getFrom 123 = .ok (.lconst 0, 1) := by decide +kernel
theorem dX8_getFrom_124 : decode cX8_getFrom 124 = .ok (.goto 6, 3) := by decide +kernel
theorem dX8_getFrom_127 : decode cX8_getFrom 127 = .ok (.ldc2_w 33, 3) := by decide +kernel
theorem dX8_getFrom_130 : decode cX8_getFrom 130 = .ok (.lreturn, 1) := by decide +kernel
set_option maxRecDepth 20000 in
theorem ggX8_askFrom_X7_isProxy : GoodIn wsX8_askFrom wsX7_isProxy := goodIn_r _ [8, 9, 44, 45, 46, 47, 48, 49, 50, 51, 52] (by decide +kernel) (by decide +kernel)
set_option maxRecDepth 20000 in
theorem gX8_askFrom_X7_isProxy : GoodIn wsX8_askFrom (wsV RX8 21 RX7 yX7_isProxy wsX7_isProxy) := goodIn_app (goodIn_of _ (by decide +kernel)) ggX8_askFrom_X7_isProxy
set_option maxRecDepth 20000 in
theorem ggX8_askFrom_X7_isTold : GoodIn wsX8_askFrom wsX7_isTold := goodIn_ca (goodIn_r _ [13, 14, 15, 16, 17, 7, 18, 19, 44, 45, 46, 47, 48, 49, 50, 51, 52] (by decide +kernel) (by decide +kernel)) (goodIn_sub (fun _ h => List.mem_cons_of_mem _ (List.mem_append_right _ h)) (by decide +kernel))
set_option maxRecDepth 20000 in
theorem gX8_askFrom_X7_isTold : GoodIn wsX8_askFrom (wsV RX8 35 RX7 yX7_isTold wsX7_isTold) := goodIn_app (goodIn_of _ (by decide +kernel)) ggX8_askFrom_X7_isTold
set_option maxRecDepth 20000 in
theorem ggX8_askFrom_X7_answerTo : GoodIn wsX8_askFrom wsX7_answerTo := goodIn_ca (goodIn_r _ [18, 14, 19, 44, 45, 46, 47, 48, 49, 50, 51, 52] (by decide +kernel) (by decide +kernel)) (goodIn_sub (fun _ h => List.mem_cons_of_mem _ (List.mem_append_right _ h)) (by decide +kernel))
set_option maxRecDepth 20000 in
theorem gX8_askFrom_X7_answerTo : GoodIn wsX8_askFrom (wsV RX8 39 RX7 yX7_answerTo wsX7_answerTo) := goodIn_app (goodIn_of _ (by decide +kernel)) ggX8_askFrom_X7_answerTo
set_option maxRecDepth 20000 in
theorem ggX8_askFrom_X8_plainBehind : GoodIn wsX8_askFrom wsX8_plainBehind := goodIn_r _ [25, 1, 2, 4, 5, 6, 7, 8, 9, 44, 45, 46, 47, 48, 49, 50, 51, 52] (by decide +kernel) (by decide +kernel)
set_option maxRecDepth 20000 in
theorem gX8_askFrom_X8_plainBehind : GoodIn wsX8_askFrom (wsV RX8 43 RX8 yX8_plainBehind wsX8_plainBehind) := goodIn_app (goodIn_of _ (by decide +kernel)) ggX8_askFrom_X8_plainBehind
set_option maxRecDepth 20000 in
theorem ggX8_askFrom_X7_keepsKey : GoodIn wsX8_askFrom wsX7_keepsKey := goodIn_ca (goodIn_r _ [29, 30, 31, 32, 33, 7, 34, 35, 36, 37, 38, 39, 44, 45, 46, 47, 48, 49, 50, 51, 52] (by decide +kernel) (by decide +kernel)) (goodIn_sub (fun _ h => List.mem_cons_of_mem _ (List.mem_append_right _ h)) (by decide +kernel))
set_option maxRecDepth 20000 in
theorem gX8_askFrom_X7_keepsKey : GoodIn wsX8_askFrom (wsV RX8 60 RX7 yX7_keepsKey wsX7_keepsKey) := goodIn_app (goodIn_of _ (by decide +kernel)) ggX8_askFrom_X7_keepsKey
set_option maxRecDepth 20000 in
theorem ggX8_askFrom_X8_yesOrNo : GoodIn wsX8_askFrom wsX8_yesOrNo := goodIn_r _ [42] (by decide +kernel) (by decide +kernel)
set_option maxRecDepth 20000 in
theorem gX8_askFrom_X8_yesOrNo : GoodIn wsX8_askFrom (va_wsS RX8 63 yX8_yesOrNo wsX8_yesOrNo) := goodIn_app (goodIn_of _ (by decide +kernel)) ggX8_askFrom_X8_yesOrNo
set_option maxRecDepth 20000 in
theorem ggX8_askFrom_X7_holds : GoodIn wsX8_askFrom wsX7_holds := goodIn_ca (goodIn_r _ [34, 35, 44, 45, 46, 47, 48, 49, 50, 51, 52] (by decide +kernel) (by decide +kernel)) (goodIn_sub (fun _ h => List.mem_cons_of_mem _ (List.mem_append_right _ h)) (by decide +kernel))
set_option maxRecDepth 20000 in
theorem gX8_askFrom_X7_holds : GoodIn wsX8_askFrom (wsV RX8 51 RX7 yX7_holds wsX7_holds) := goodIn_app (goodIn_of _ (by decide +kernel)) ggX8_askFrom_X7_holds
theorem dX8_askFrom_0 : decode cX8_askFrom 0 = .ok (.aload_n 1, 1) := by decide +kernel
theorem dX8_askFrom_1 : decode cX8_askFrom 1 = .ok (.astore_n 3, 1) := by decide +kernel
theorem dX8_askFrom_2 : decode cX8_askFrom 2 = .ok (.iconst 0, 1) := by decide +kernel
theorem dX8_askFrom_3 : decode cX8_askFrom 3 = .ok (.istore 4, 2) := by decide +kernel
theorem dX8_askFrom_5 : decode cX8_askFrom 5 = .ok (.iload 4, 2) := by decide +kernel
theorem dX8_askFrom_7 : decode cX8_askFrom 7 = .ok (.bipush 30, 2) := by decide +kernel
theorem dX8_askFrom_9 : decode cX8_askFrom 9 = .ok (.if_icmp .ge 118, 3) := by decide +kernel
theorem dX8_askFrom_12 : decode cX8_askFrom 12 = .ok (.aload_n 3, 1) := by decide +kernel
theorem dX8_askFrom_13 : decode cX8_askFrom 13 = .ok (.ifnull 114, 3) := by decide +kernel
theorem dX8_askFrom_16 : decode cX8_askFrom 16 = .ok (.aload_n 3, 1) := by decide +kernel
theorem dX8_askFrom_17 : decode cX8_askFrom 17 = .ok (.invokevirtual 21, 3) := by decide +kernel
theorem dX8_askFrom_20 : decode cX8_askFrom 20 = .ok (.ifCond .eq 85, 3) := by decide +kernel
theorem dX8_askFrom_23 : decode cX8_askFrom 23 = .ok (.aload_n 3, 1) := by decide +kernel
theorem dX8_askFrom_24 : decode cX8_askFrom 24 = .ok (.getfield 25, 3) := by decide +kernel
theorem dX8_askFrom_27 : decode cX8_askFrom 27 = .ok (.ifCond .eq 6, 3) := by decide +kernel
theorem dX8_askFrom_30 : decode cX8_askFrom 30 = .ok (.bipush 84, 2) := by decide +kernel
theorem dX8_askFrom_32 : decode cX8_askFrom 32 = .ok (.ireturn, 1) := by decide +kernel
theorem dX8_askFrom_33 : decode cX8_askFrom 33 = .ok (.aload_n 3, 1) := by decide +kernel
theorem dX8_askFrom_34 : decode cX8_askFrom 34 = .ok (.iconst 1, 1) := by decide +kernel
theorem dX8_askFrom_35 : decode cX8_askFrom 35 = .ok (.invokevirtual 35, 3) := by decide +kernel
theorem dX8_askFrom_38 : decode cX8_askFrom 38 = .ok (.ifCond .eq 59, 3) := by decide +kernel
theorem dX8_askFrom_41 : decode cX8_askFrom 41 = .ok (.aload_n 3, 1) := by decide +kernel
theorem dX8_askFrom_42 : decode cX8_askFrom 42 = .ok (.iconst 1, 1) := by decide +kernel
theorem dX8_askFrom_43 : decode cX8_askFrom 43 = .ok (.invokevirtual 39, 3) := by decide +kernel
theorem dX8_askFrom_46 : decode cX8_askFrom 46 = .ok (.iconst 1, 1) := by decide +kernel
theorem dX8_askFrom_47 : decode cX8_askFrom 47 = .ok (.if_icmp .ne 7, 3) := by decide +kernel
theorem dX8_askFrom_50 : decode cX8_askFrom 50 = .ok (.iconst 1, 1) := by decide +kernel
theorem dX8_askFrom_51 : decode cX8_askFrom 51 = .ok (.goto 4, 3) := by decide +kernel
theorem dX8_askFrom_54 : decode cX8_askFrom 54 = .ok (.iconst 0, 1) := by decide +kernel
theorem dX8_askFrom_55 : decode cX8_askFrom 55 = .ok (.istore 5, 2) := by decide +kernel
theorem dX8_askFrom_57 : decode cX8_askFrom 57 = .ok (.aload_n 0, 1) := by decide +kernel
theorem dX8_askFrom_58 : decode cX8_askFrom 58 = .ok (.aload_n 3, 1) := by decide +kernel
theorem dX8_askFrom_59 : decode cX8_askFrom 59 = .ok (.getfield 29, 3) := by decide +kernel
theorem dX8_askFrom_62 : decode cX8_askFrom 62 = .ok (.invokevirtual 43, 3) := by decide +kernel
theorem dX8_askFrom_65 : decode cX8_askFrom 65 = .ok (.astore 6, 2) := by decide +kernel
theorem dX8_askFrom_67 : decode cX8_askFrom 67 = .ok (.aload 6, 2) := by decide +kernel
theorem dX8_askFrom_69 : decode cX8_askFrom 69 = .ok (.ifnull 17, 3) := by decide +kernel
theorem dX8_askFrom_72 : decode cX8_askFrom 72 = .ok (.iload 5, 2) := by decide +kernel
theorem dX8_askFrom_74 : decode cX8_askFrom 74 = .ok (.ifCond .ne 17, 3) := by decide +kernel
theorem dX8_askFrom_77 : decode cX8_askFrom 77 = .ok (.aload 6, 2) := by decide +kernel
theorem dX8_askFrom_79 : decode cX8_askFrom 79 = .ok (.iload_n 2, 1) := by decide +kernel
theorem dX8_askFrom_80 : decode cX8_askFrom 80 = .ok (.invokevirtual 60, 3) := by decide +kernel
theorem dX8_askFrom_83 : decode cX8_askFrom 83 = .ok (.ifCond .eq 8, 3) := by decide +kernel
theorem dX8_askFrom_86 : decode cX8_askFrom 86 = .ok (.bipush 84, 2) := by decide +kernel
theorem dX8_askFrom_88 : decode cX8_askFrom 88 = .ok (.goto 8, 3) := by decide +kernel
theorem dX8_askFrom_91 : decode cX8_askFrom 91 = .ok (.iload 5, 2) := by decide +kernel
theorem dX8_askFrom_93 : decode cX8_askFrom 93 = .ok (.invokestatic 63, 3) := by decide +kernel
theorem dX8_askFrom_96 : decode cX8_askFrom 96 = .ok (.ireturn, 1) := by decide +kernel
theorem dX8_askFrom_97 : decode cX8_askFrom 97 = .ok (.aload_n 3, 1) := by decide +kernel
theorem dX8_askFrom_98 : decode cX8_askFrom 98 = .ok (.getfield 29, 3) := by decide +kernel
theorem dX8_askFrom_101 : decode cX8_askFrom 101 = .ok (.astore_n 3, 1) := by decide +kernel
theorem dX8_askFrom_102 : decode cX8_askFrom 102 = .ok (.goto 19, 3) := by decide +kernel
theorem dX8_askFrom_105 : decode cX8_askFrom 105 = .ok (.aload_n 3, 1) := by decide +kernel
theorem dX8_askFrom_106 : decode cX8_askFrom 106 = .ok (.iload_n 2, 1) := by decide +kernel
theorem dX8_askFrom_107 : decode cX8_askFrom 107 = .ok (.invokevirtual 51, 3) := by decide +kernel
theorem dX8_askFrom_110 : decode cX8_askFrom 110 = .ok (.ifCond .eq 6, 3) := by decide +kernel
theorem dX8_askFrom_113 : decode cX8_askFrom 113 = .ok (.bipush 121, 2) := by decide +kernel
theorem dX8_askFrom_115 : decode cX8_askFrom 115 = .ok (.ireturn, 1) := by decide +kernel
theorem dX8_askFrom_116 : decode cX8_askFrom 116 = .ok (.aload_n 3, 1) := by decide +kernel
theorem dX8_askFrom_117 : decode cX8_askFrom 117 = .ok (.getfield 57, 3) := by decide +kernel
theorem dX8_askFrom_120 : decode cX8_askFrom 120 = .ok (.astore_n 3, 1) := by decide +kernel
theorem dX8_askFrom_121 : decode cX8_askFrom 121 = .ok (.iinc 4 1, 3) := by decide +kernel
theorem dX8_askFrom_124 : decode cX8_askFrom 124 = .ok (.goto (-119), 3) := by decide +kernel
theorem dX8_askFrom_127 : decode cX8_askFrom 127 = .ok (.aload_n 3, 1) := by decide +kernel
theorem dX8_askFrom_128 : decode cX8_askFrom 128 = .ok (.ifnonnull 8, 3) := by decide +kernel
theorem dX8_askFrom_131 : decode cX8_askFrom 131 = .ok (.bipush 110, 2) := by decide +kernel
theorem dX8_askFrom_133 : decode cX8_askFrom 133 = .ok (.goto 5, 3) := by decide +kernel
theorem dX8_askFrom_136 : decode cX8_askFrom 136 = .ok (.bipush 84, 2) := by decide +kernel
theorem dX8_askFrom_138 : decode cX8_askFrom 138 = .ok (.ireturn, 1) := by decide +kernel
set_option maxRecDepth 20000 in
theorem ggX8_setFrom_X7_isProxy : GoodIn wsX8_setFrom wsX7_isProxy := goodIn_r _ [8, 9, 71, 72, 73, 74, 75, 76, 77, 78, 79] (by decide +kernel) (by decide +kernel)
set_option maxRecDepth 20000 in
theorem gX8_setFrom_X7_isProxy : GoodIn wsX8_setFrom (wsV RX8 21 RX7 yX7_isProxy wsX7_isProxy) := goodIn_app (goodIn_of _ (by decide +kernel)) ggX8_setFrom_X7_isProxy
set_option maxRecDepth 20000 in
theorem ggX8_setFrom_X7_isTold : GoodIn wsX8_setFrom wsX7_isTold := goodIn_ca (goodIn_r _ [13, 14, 15, 16, 17, 7, 18, 19, 71, 72, 73, 74, 75, 76, 77, 78, 79] (by decide +kernel) (by decide +kernel)) (goodIn_sub (fun _ h => List.mem_cons_of_mem _ (List.mem_append_right _ h)) (by decide +kernel))
set_option maxRecDepth 20000 in
theorem gX8_setFrom_X7_isTold : GoodIn wsX8_setFrom (wsV RX8 35 RX7 yX7_isTold wsX7_isTold) := goodIn_app (goodIn_of _ (by decide +kernel)) ggX8_setFrom_X7_isTold
set_option maxRecDepth 20000 in
theorem ggX8_setFrom_X7_answerTo : GoodIn wsX8_setFrom wsX7_answerTo := goodIn_ca (goodIn_r _ [18, 14, 19, 71, 72, 73, 74, 75, 76, 77, 78, 79] (by decide +kernel) (by decide +kernel)) (goodIn_sub (fun _ h => List.mem_cons_of_mem _ (List.mem_append_right _ h)) (by decide +kernel))
set_option maxRecDepth 20000 in
theorem gX8_setFrom_X7_answerTo : GoodIn wsX8_setFrom (wsV RX8 39 RX7 yX7_answerTo wsX7_answerTo) := goodIn_app (goodIn_of _ (by decide +kernel)) ggX8_setFrom_X7_answerTo
set_option maxRecDepth 20000 in
theorem ggX8_setFrom_X8_plainBehind : GoodIn wsX8_setFrom wsX8_plainBehind := goodIn_r _ [25, 1, 2, 4, 5, 6, 7, 8, 9, 71, 72, 73, 74, 75, 76, 77, 78, 79] (by decide +kernel) (by decide +kernel)
set_option maxRecDepth 20000 in
theorem gX8_setFrom_X8_plainBehind : GoodIn wsX8_setFrom (wsV RX8 43 RX8 yX8_plainBehind wsX8_plainBehind) := goodIn_app (goodIn_of _ (by decide +kernel)) ggX8_setFrom_X8_plainBehind
set_option maxRecDepth 20000 in
theorem ggX8_setFrom_X7_keepsOther : GoodIn wsX8_setFrom wsX7_keepsOther := goodIn_ca (goodIn_r _ [29, 30, 31, 32, 7, 33, 34, 35, 36, 37, 38, 39, 40, 41, 42, 43, 71, 72, 73, 74, 75, 76, 77, 78, 79] (by decide +kernel) (by decide +kernel)) (goodIn_sub (fun _ h => List.mem_cons_of_mem _ (List.mem_append_right _ h)) (by decide +kernel))
set_option maxRecDepth 20000 in
theorem gX8_setFrom_X7_keepsOther : GoodIn wsX8_setFrom (wsV RX8 47 RX7 yX7_keepsOther wsX7_keepsOther) := goodIn_app (goodIn_of _ (by decide +kernel)) ggX8_setFrom_X7_keepsOther
set_option maxRecDepth 20000 in
theorem ggX8_setFrom_X8_yesOrNo : GoodIn wsX8_setFrom wsX8_yesOrNo := goodIn_r _ [46] (by decide +kernel) (by decide +kernel)
set_option maxRecDepth 20000 in
theorem gX8_setFrom_X8_yesOrNo : GoodIn wsX8_setFrom (va_wsS RX8 63 yX8_yesOrNo wsX8_yesOrNo) := goodIn_app (goodIn_of _ (by decide +kernel)) ggX8_setFrom_X8_yesOrNo
set_option maxRecDepth 20000 in
theorem ggX8_setFrom_X7_holds : GoodIn wsX8_setFrom wsX7_holds := goodIn_ca (goodIn_r _ [33, 34, 71, 72, 73, 74, 75, 76, 77, 78, 79] (by decide +kernel) (by decide +kernel)) (goodIn_sub (fun _ h => List.mem_cons_of_mem _ (List.mem_append_right _ h)) (by decide +kernel))
set_option maxRecDepth 20000 in
theorem gX8_setFrom_X7_holds : GoodIn wsX8_setFrom (wsV RX8 51 RX7 yX7_holds wsX7_holds) := goodIn_app (goodIn_of _ (by decide +kernel)) ggX8_setFrom_X7_holds
set_option maxRecDepth 20000 in
theorem ggX8_setFrom_X7_canBe : GoodIn wsX8_setFrom wsX7_canBe := goodIn_ca (goodIn_r _ [38, 34, 71, 72, 73, 74, 75, 76, 77, 78, 79] (by decide +kernel) (by decide +kernel)) (goodIn_sub (fun _ h => List.mem_cons_of_mem _ (List.mem_append_right _ h)) (by decide +kernel))
set_option maxRecDepth 20000 in
theorem gX8_setFrom_X7_canBe : GoodIn wsX8_setFrom (wsV RX8 67 RX7 yX7_canBe wsX7_canBe) := goodIn_app (goodIn_of _ (by decide +kernel)) ggX8_setFrom_X7_canBe
set_option maxRecDepth 20000 in
theorem ggX8_setFrom_X8_receive : GoodIn wsX8_setFrom wsX8_receive := goodIn_ca (goodIn_r _ [52, 21, 22, 23, 24, 25, 1, 2, 4, 5, 6, 7, 8, 9, 47, 31, 32, 33, 34, 53, 54, 55, 56, 57, 43, 30, 58, 59, 60, 61, 62, 63, 35, 36, 37, 38, 64, 65, 66, 48, 67, 68, 69, 70, 71, 72, 73, 74, 75, 76, 77, 78, 79] (by decide +kernel) (by decide +kernel)) (goodIn_sub (fun _ h => List.mem_cons_of_mem _ (List.mem_append_right _ h)) (by decide +kernel))
set_option maxRecDepth 20000 in
theorem gX8_setFrom_X8_receive : GoodIn wsX8_setFrom (wsV RX8 70 RX8 yX8_receive wsX8_receive) := goodIn_app (goodIn_of _ (by decide +kernel)) ggX8_setFrom_X8_receive
theorem dX8_setFrom_0 : decode cX8_setFrom 0 = .ok (.aload_n 1, 1) := by decide +kernel
theorem dX8_setFrom_1 : decode cX8_setFrom 1 = .ok (.astore 4, 2) := by decide +kernel
theorem dX8_setFrom_3 : decode cX8_setFrom 3 = .ok (.iconst 0, 1) := by decide +kernel
theorem dX8_setFrom_4 : decode cX8_setFrom 4 = .ok (.istore 5, 2) := by decide +kernel
theorem dX8_setFrom_6 : decode cX8_setFrom 6 = .ok (.iload 5, 2) := by decide +kernel
theorem dX8_setFrom_8 : decode cX8_setFrom 8 = .ok (.bipush 30, 2) := by decide +kernel
theorem dX8_setFrom_10 : decode cX8_setFrom 10 = .ok (.if_icmp .ge 150, 3) := by decide +kernel
theorem dX8_setFrom_13 : decode cX8_setFrom 13 = .ok (.aload 4, 2) := by decide +kernel
theorem dX8_setFrom_15 : decode cX8_setFrom 15 = .ok (.ifnull 145, 3) := by decide +kernel
theorem dX8_setFrom_18 : decode cX8_setFrom 18 = .ok (.aload 4, 2) := by decide +kernel
theorem dX8_setFrom_20 : decode cX8_setFrom 20 = .ok (.invokevirtual 21, 3) := by decide +kernel
theorem dX8_setFrom_23 : decode cX8_setFrom 23 = .ok (.ifCond .eq 92, 3) := by decide +kernel
theorem dX8_setFrom_26 : decode cX8_setFrom 26 = .ok (.aload 4, 2) := by decide +kernel
theorem dX8_setFrom_28 : decode cX8_setFrom 28 = .ok (.getfield 25, 3) := by decide +kernel
theorem dX8_setFrom_31 : decode cX8_setFrom 31 = .ok (.ifCond .eq 6, 3) := by decide +kernel
theorem dX8_setFrom_34 : decode cX8_setFrom 34 = .ok (.bipush 84, 2) := by decide +kernel
theorem dX8_setFrom_36 : decode cX8_setFrom 36 = .ok (.ireturn, 1) := by decide +kernel
theorem dX8_setFrom_37 : decode cX8_setFrom 37 = .ok (.aload 4, 2) := by decide +kernel
theorem dX8_setFrom_39 : decode cX8_setFrom 39 = .ok (.iconst 2, 1) := by decide +kernel
theorem dX8_setFrom_40 : decode cX8_setFrom 40 = .ok (.invokevirtual 35, 3) := by decide +kernel
theorem dX8_setFrom_43 : decode cX8_setFrom 43 = .ok (.ifCond .eq 62, 3) := by decide +kernel
theorem dX8_setFrom_46 : decode cX8_setFrom 46 = .ok (.aload 4, 2) := by decide +kernel
theorem dX8_setFrom_48 : decode cX8_setFrom 48 = .ok (.iconst 2, 1) := by decide +kernel
theorem dX8_setFrom_49 : decode cX8_setFrom 49 = .ok (.invokevirtual 39, 3) := by decide +kernel
theorem dX8_setFrom_52 : decode cX8_setFrom 52 = .ok (.iconst 1, 1) := by decide +kernel
theorem dX8_setFrom_53 : decode cX8_setFrom 53 = .ok (.if_icmp .ne 7, 3) := by decide +kernel
theorem dX8_setFrom_56 : decode cX8_setFrom 56 = .ok (.iconst 1, 1) := by decide +kernel
theorem dX8_setFrom_57 : decode cX8_setFrom 57 = .ok (.goto 4, 3) := by decide +kernel
theorem dX8_setFrom_60 : decode cX8_setFrom 60 = .ok (.iconst 0, 1) := by decide +kernel
theorem dX8_setFrom_61 : decode cX8_setFrom 61 = .ok (.istore 6, 2) := by decide +kernel
theorem dX8_setFrom_63 : decode cX8_setFrom 63 = .ok (.aload_n 0, 1) := by decide +kernel
theorem dX8_setFrom_64 : decode cX8_setFrom 64 = .ok (.aload 4, 2) := by decide +kernel
theorem dX8_setFrom_66 : decode cX8_setFrom 66 = .ok (.getfield 29, 3) := by decide +kernel
theorem dX8_setFrom_69 : decode cX8_setFrom 69 = .ok (.invokevirtual 43, 3) := by decide +kernel
theorem dX8_setFrom_72 : decode cX8_setFrom 72 = .ok (.astore 7, 2) := by decide +kernel
theorem dX8_setFrom_74 : decode cX8_setFrom 74 = .ok (.aload 7, 2) := by decide +kernel
theorem dX8_setFrom_76 : decode cX8_setFrom 76 = .ok (.ifnull 18, 3) := by decide +kernel
theorem dX8_setFrom_79 : decode cX8_setFrom 79 = .ok (.iload 6, 2) := by decide +kernel
theorem dX8_setFrom_81 : decode cX8_setFrom 81 = .ok (.ifCond .eq 18, 3) := by decide +kernel
theorem dX8_setFrom_84 : decode cX8_setFrom 84 = .ok (.aload 7, 2) := by decide +kernel
theorem dX8_setFrom_86 : decode cX8_setFrom 86 = .ok (.iload_n 2, 1) := by decide +kernel
theorem dX8_setFrom_87 : decode cX8_setFrom 87 = .ok (.iload_n 3, 1) := by decide +kernel
theorem dX8_setFrom_88 : decode cX8_setFrom 88 = .ok (.invokevirtual 47, 3) := by decide +kernel
theorem dX8_setFrom_91 : decode cX8_setFrom 91 = .ok (.ifCond .eq 8, 3) := by decide +kernel
theorem dX8_setFrom_94 : decode cX8_setFrom 94 = .ok (.bipush 84, 2) := by decide +kernel
theorem dX8_setFrom_96 : decode cX8_setFrom 96 = .ok (.goto 8, 3) := by decide +kernel
theorem dX8_setFrom_99 : decode cX8_setFrom 99 = .ok (.iload 6, 2) := by decide +kernel
theorem dX8_setFrom_101 : decode cX8_setFrom 101 = .ok (.invokestatic 63, 3) := by decide +kernel
theorem dX8_setFrom_104 : decode cX8_setFrom 104 = .ok (.ireturn, 1) := by decide +kernel
theorem dX8_setFrom_105 : decode cX8_setFrom 105 = .ok (.aload 4, 2) := by decide +kernel
theorem dX8_setFrom_107 : decode cX8_setFrom 107 = .ok (.getfield 29, 3) := by decide +kernel
theorem dX8_setFrom_110 : decode cX8_setFrom 110 = .ok (.astore 4, 2) := by decide +kernel
theorem dX8_setFrom_112 : decode cX8_setFrom 112 = .ok (.goto 42, 3) := by decide +kernel
theorem dX8_setFrom_115 : decode cX8_setFrom 115 = .ok (.aload 4, 2) := by decide +kernel
theorem dX8_setFrom_117 : decode cX8_setFrom 117 = .ok (.iload_n 2, 1) := by decide +kernel
theorem dX8_setFrom_118 : decode cX8_setFrom 118 = .ok (.invokevirtual 51, 3) := by decide +kernel
theorem dX8_setFrom_121 : decode cX8_setFrom 121 = .ok (.ifCond .eq 26, 3) := by decide +kernel
theorem dX8_setFrom_124 : decode cX8_setFrom 124 = .ok (.aload 4, 2) := by decide +kernel
theorem dX8_setFrom_126 : decode cX8_setFrom 126 = .ok (.iconst 1, 1) := by decide +kernel
theorem dX8_setFrom_127 : decode cX8_setFrom 127 = .ok (.iload_n 2, 1) := by decide +kernel
theorem dX8_setFrom_128 : decode cX8_setFrom 128 = .ok (.invokevirtual 67, 3) := by decide +kernel
theorem dX8_setFrom_131 : decode cX8_setFrom 131 = .ok (.ifCond .eq 13, 3) := by decide +kernel
theorem dX8_setFrom_134 : decode cX8_setFrom 134 = .ok (.aload_n 0, 1) := by decide +kernel
theorem dX8_setFrom_135 : decode cX8_setFrom 135 = .ok (.aload_n 1, 1) := by decide +kernel
theorem dX8_setFrom_136 : decode cX8_setFrom 136 = .ok (.iload_n 2, 1) := by decide +kernel
theorem dX8_setFrom_137 : decode cX8_setFrom 137 = .ok (.iload_n 3, 1) := by decide +kernel
theorem dX8_setFrom_138 : decode cX8_setFrom 138 = .ok (.invokevirtual 70, 3) := by decide +kernel
theorem dX8_setFrom_141 : decode cX8_setFrom 141 = .ok (.goto 5, 3) := by decide +kernel
theorem dX8_setFrom_144 : decode cX8_setFrom 144 = .ok (.bipush 110, 2) := by decide +kernel
theorem dX8_setFrom_146 : decode cX8_setFrom 146 = .ok (.ireturn, 1) := by decide +kernel
theorem dX8_setFrom_147 : decode cX8_setFrom 147 = .ok (.aload 4, 2) := by decide +kernel
theorem dX8_setFrom_149 : decode cX8_setFrom 149 = .ok (.getfield 57, 3) := by decide +kernel
theorem dX8_setFrom_152 : decode cX8_setFrom 152 = .ok (.astore 4, 2) := by decide +kernel
theorem dX8_setFrom_154 : decode cX8_setFrom 154 = .ok (.iinc 5 1, 3) := by decide +kernel
theorem dX8_setFrom_157 : decode cX8_setFrom 157 = .ok (.goto (-151), 3) := by decide +kernel
theorem dX8_setFrom_160 : decode cX8_setFrom 160 = .ok (.aload 4, 2) := by decide +kernel
theorem dX8_setFrom_162 : decode cX8_setFrom 162 = .ok (.ifnonnull 13, 3) := by decide +kernel
theorem dX8_setFrom_165 : decode cX8_setFrom 165 = .ok (.aload_n 0, 1) := by decide +kernel
theorem dX8_setFrom_166 : decode cX8_setFrom 166 = .ok (.aload_n 1, 1) := by decide +kernel
theorem dX8_setFrom_167 : decode cX8_setFrom 167 = .ok (.iload_n 2, 1) := by decide +kernel
theorem dX8_setFrom_168 : decode cX8_setFrom 168 = .ok (.iload_n 3, 1) := by decide +kernel
theorem dX8_setFrom_169 : decode cX8_setFrom 169 = .ok (.invokevirtual 70, 3) := by decide +kernel
theorem dX8_setFrom_172 : decode cX8_setFrom 172 = .ok (.goto 5, 3) := by decide +kernel
theorem dX8_setFrom_175 : decode cX8_setFrom 175 = .ok (.bipush 84, 2) := by decide +kernel
theorem dX8_setFrom_177 : decode cX8_setFrom 177 = .ok (.ireturn, 1) := by decide +kernel
set_option maxRecDepth 20000 in
theorem ggX8_receive_X8_plainBehind : GoodIn wsX8_receive wsX8_plainBehind := goodIn_r _ [5, 6, 7, 8, 9, 10, 11, 12, 13, 44, 45, 46, 47, 48, 49, 50, 51, 52] (by decide +kernel) (by decide +kernel)
set_option maxRecDepth 20000 in
theorem gX8_receive_X8_plainBehind : GoodIn wsX8_receive (wsV RX8 43 RX8 yX8_plainBehind wsX8_plainBehind) := goodIn_app (goodIn_of _ (by decide +kernel)) ggX8_receive_X8_plainBehind
set_option maxRecDepth 20000 in
theorem ggX8_receive_X7_holds : GoodIn wsX8_receive wsX7_holds := goodIn_ca (goodIn_r _ [17, 18, 44, 45, 46, 47, 48, 49, 50, 51, 52] (by decide +kernel) (by decide +kernel)) (goodIn_sub (fun _ h => List.mem_cons_of_mem _ (List.mem_append_right _ h)) (by decide +kernel))
set_option maxRecDepth 20000 in
theorem gX8_receive_X7_holds : GoodIn wsX8_receive (wsV RX8 51 RX7 yX7_holds wsX7_holds) := goodIn_app (goodIn_of _ (by decide +kernel)) ggX8_receive_X7_holds
set_option maxRecDepth 20000 in
theorem ggX8_receive_X7_putIn : GoodIn wsX8_receive wsX7_putIn := goodIn_ca (goodIn_r _ [22, 23, 18, 24, 25, 15, 16, 11, 17, 26, 27, 28, 29, 30, 31, 32, 33, 34, 35, 36, 37, 38, 44, 45, 46, 47, 48, 49, 50, 51, 52] (by decide +kernel) (by decide +kernel)) (goodIn_sub (fun _ h => List.mem_cons_of_mem _ (List.mem_append_right _ h)) (by decide +kernel))
set_option maxRecDepth 20000 in
theorem gX8_receive_X7_putIn : GoodIn wsX8_receive (wsV RX8 74 RX7 yX7_putIn wsX7_putIn) := goodIn_app (goodIn_of _ (by decide +kernel)) ggX8_receive_X7_putIn
set_option maxRecDepth 20000 in
theorem ggX8_receive_X7_canBe : GoodIn wsX8_receive wsX7_canBe := goodIn_ca (goodIn_r _ [35, 18, 44, 45, 46, 47, 48, 49, 50, 51, 52] (by decide +kernel) (by decide +kernel)) (goodIn_sub (fun _ h => List.mem_cons_of_mem _ (List.mem_append_right _ h)) (by decide +kernel))
set_option maxRecDepth 20000 in
theorem gX8_receive_X7_canBe : GoodIn wsX8_receive (wsV RX8 67 RX7 yX7_canBe wsX7_canBe) := goodIn_app (goodIn_of _ (by decide +kernel)) ggX8_receive_X7_canBe
set_option maxRecDepth 20000 in
theorem ggX8_receive_X7_rightsOf : GoodIn wsX8_receive wsX7_rightsOf := goodIn_ca (goodIn_r _ [43, 18, 44, 45, 46, 47, 48, 49, 50, 51, 52] (by decide +kernel) (by decide +kernel)) (goodIn_sub (fun _ h => List.mem_cons_of_mem _ (List.mem_append_right _ h)) (by decide +kernel))
set_option maxRecDepth 20000 in
theorem gX8_receive_X7_rightsOf : GoodIn wsX8_receive (wsV RX8 78 RX7 yX7_rightsOf wsX7_rightsOf) := goodIn_app (goodIn_of _ (by decide +kernel)) ggX8_receive_X7_rightsOf
theorem dX8_receive_0 : decode cX8_receive 0 = .ok (.aload_n 0, 1) := by decide +kernel
theorem dX8_receive_1 : decode cX8_receive 1 = .ok (.aload_n 1, 1) := by decide +kernel
theorem dX8_receive_2 : decode cX8_receive 2 = .ok (.invokevirtual 43, 3) := by decide +kernel
theorem dX8_receive_5 : decode cX8_receive 5 = .ok (.astore 4, 2) := by decide +kernel
theorem dX8_receive_7 : decode cX8_receive 7 = .ok (.aload 4, 2) := by decide +kernel
theorem dX8_receive_9 : decode cX8_receive 9 = .ok (.ifnonnull 6, 3) := by decide +kernel
theorem dX8_receive_12 : decode cX8_receive 12 = .ok (.bipush 84, 2) := by decide +kernel
theorem dX8_receive_14 : decode cX8_receive 14 = .ok (.ireturn, 1) := by decide +kernel
theorem dX8_receive_15 : decode cX8_receive 15 = .ok (.aload 4, 2) := by decide +kernel
theorem dX8_receive_17 : decode cX8_receive 17 = .ok (.iload_n 2, 1) := by decide +kernel
theorem dX8_receive_18 : decode cX8_receive 18 = .ok (.invokevirtual 51, 3) := by decide +kernel
theorem dX8_receive_21 : decode cX8_receive 21 = .ok (.ifCond .ne 13, 3) := by decide +kernel
theorem dX8_receive_24 : decode cX8_receive 24 = .ok (.aload 4, 2) := by decide +kernel
theorem dX8_receive_26 : decode cX8_receive 26 = .ok (.iload_n 2, 1) := by decide +kernel
theorem dX8_receive_27 : decode cX8_receive 27 = .ok (.iload_n 3, 1) := by decide +kernel
theorem dX8_receive_28 : decode cX8_receive 28 = .ok (.bipush 7, 2) := by decide +kernel
theorem dX8_receive_30 : decode cX8_receive 30 = .ok (.invokevirtual 74, 3) := by decide +kernel
theorem dX8_receive_33 : decode cX8_receive 33 = .ok (.ireturn, 1) := by decide +kernel
theorem dX8_receive_34 : decode cX8_receive 34 = .ok (.aload 4, 2) := by decide +kernel
theorem dX8_receive_36 : decode cX8_receive 36 = .ok (.iconst 1, 1) := by decide +kernel
theorem dX8_receive_37 : decode cX8_receive 37 = .ok (.iload_n 2, 1) := by decide +kernel
theorem dX8_receive_38 : decode cX8_receive 38 = .ok (.invokevirtual 67, 3) := by decide +kernel
theorem dX8_receive_41 : decode cX8_receive 41 = .ok (.ifCond .eq 19, 3) := by decide +kernel
theorem dX8_receive_44 : decode cX8_receive 44 = .ok (.aload 4, 2) := by decide +kernel
theorem dX8_receive_46 : decode cX8_receive 46 = .ok (.iload_n 2, 1) := by decide +kernel
theorem dX8_receive_47 : decode cX8_receive 47 = .ok (.iload_n 3, 1) := by decide +kernel
theorem dX8_receive_48 : decode cX8_receive 48 = .ok (.aload 4, 2) := by decide +kernel
theorem dX8_receive_50 : decode cX8_receive 50 = .ok (.iload_n 2, 1) := by decide +kernel
theorem dX8_receive_51 : decode cX8_receive 51 = .ok (.invokevirtual 78, 3) := by decide +kernel
theorem dX8_receive_54 : decode cX8_receive 54 = .ok (.invokevirtual 74, 3) := by decide +kernel
theorem dX8_receive_57 : decode cX8_receive 57 = .ok (.goto 5, 3) := by decide +kernel
theorem dX8_receive_60 : decode cX8_receive 60 = .ok (.bipush 110, 2) := by decide +kernel
theorem dX8_receive_62 : decode cX8_receive 62 = .ok (.ireturn, 1) := by decide +kernel
set_option maxRecDepth 20000 in
theorem ggX8_deleteFrom_X7_isProxy : GoodIn wsX8_deleteFrom wsX7_isProxy := goodIn_r _ [7, 8, 48, 49, 50, 51, 52, 53, 54, 55, 56] (by decide +kernel) (by decide +kernel)
set_option maxRecDepth 20000 in
theorem gX8_deleteFrom_X7_isProxy : GoodIn wsX8_deleteFrom (wsV RX8 21 RX7 yX7_isProxy wsX7_isProxy) := goodIn_app (goodIn_of _ (by decide +kernel)) ggX8_deleteFrom_X7_isProxy
set_option maxRecDepth 20000 in
theorem ggX8_deleteFrom_X7_takeOut : GoodIn wsX8_deleteFrom wsX7_takeOut := goodIn_ca (goodIn_r _ [12, 13, 14, 15, 16, 17, 18, 6, 19, 20, 21, 22, 23, 48, 49, 50, 51, 52, 53, 54, 55, 56] (by decide +kernel) (by decide +kernel)) (goodIn_sub (fun _ h => List.mem_cons_of_mem _ (List.mem_append_right _ h)) (by decide +kernel))
set_option maxRecDepth 20000 in
theorem gX8_deleteFrom_X7_takeOut : GoodIn wsX8_deleteFrom (wsV RX8 81 RX7 yX7_takeOut wsX7_takeOut) := goodIn_app (goodIn_of _ (by decide +kernel)) ggX8_deleteFrom_X7_takeOut
set_option maxRecDepth 20000 in
theorem ggX8_deleteFrom_X7_isTold : GoodIn wsX8_deleteFrom wsX7_isTold := goodIn_ca (goodIn_r _ [27, 28, 29, 30, 31, 6, 32, 33, 48, 49, 50, 51, 52, 53, 54, 55, 56] (by decide +kernel) (by decide +kernel)) (goodIn_sub (fun _ h => List.mem_cons_of_mem _ (List.mem_append_right _ h)) (by decide +kernel))
set_option maxRecDepth 20000 in
theorem gX8_deleteFrom_X7_isTold : GoodIn wsX8_deleteFrom (wsV RX8 35 RX7 yX7_isTold wsX7_isTold) := goodIn_app (goodIn_of _ (by decide +kernel)) ggX8_deleteFrom_X7_isTold
set_option maxRecDepth 20000 in
theorem ggX8_deleteFrom_X7_answerTo : GoodIn wsX8_deleteFrom wsX7_answerTo := goodIn_ca (goodIn_r _ [32, 28, 33, 48, 49, 50, 51, 52, 53, 54, 55, 56] (by decide +kernel) (by decide +kernel)) (goodIn_sub (fun _ h => List.mem_cons_of_mem _ (List.mem_append_right _ h)) (by decide +kernel))
set_option maxRecDepth 20000 in
theorem gX8_deleteFrom_X7_answerTo : GoodIn wsX8_deleteFrom (wsV RX8 39 RX7 yX7_answerTo wsX7_answerTo) := goodIn_app (goodIn_of _ (by decide +kernel)) ggX8_deleteFrom_X7_answerTo
set_option maxRecDepth 20000 in
theorem ggX8_deleteFrom_X8_plainBehind : GoodIn wsX8_deleteFrom wsX8_plainBehind := goodIn_r _ [39, 1, 2, 3, 4, 5, 6, 7, 8, 48, 49, 50, 51, 52, 53, 54, 55, 56] (by decide +kernel) (by decide +kernel)
set_option maxRecDepth 20000 in
theorem gX8_deleteFrom_X8_plainBehind : GoodIn wsX8_deleteFrom (wsV RX8 43 RX8 yX8_plainBehind wsX8_plainBehind) := goodIn_app (goodIn_of _ (by decide +kernel)) ggX8_deleteFrom_X8_plainBehind
set_option maxRecDepth 20000 in
theorem ggX8_deleteFrom_X7_keepsKey : GoodIn wsX8_deleteFrom wsX7_keepsKey := goodIn_ca (goodIn_r _ [43, 44, 16, 17, 18, 6, 19, 13, 20, 21, 22, 23, 48, 49, 50, 51, 52, 53, 54, 55, 56] (by decide +kernel) (by decide +kernel)) (goodIn_sub (fun _ h => List.mem_cons_of_mem _ (List.mem_append_right _ h)) (by decide +kernel))
set_option maxRecDepth 20000 in
theorem gX8_deleteFrom_X7_keepsKey : GoodIn wsX8_deleteFrom (wsV RX8 60 RX7 yX7_keepsKey wsX7_keepsKey) := goodIn_app (goodIn_of _ (by decide +kernel)) ggX8_deleteFrom_X7_keepsKey
set_option maxRecDepth 20000 in
theorem ggX8_deleteFrom_X8_yesOrNo : GoodIn wsX8_deleteFrom wsX8_yesOrNo := goodIn_r _ [47] (by decide +kernel) (by decide +kernel)
set_option maxRecDepth 20000 in
theorem gX8_deleteFrom_X8_yesOrNo : GoodIn wsX8_deleteFrom (va_wsS RX8 63 yX8_yesOrNo wsX8_yesOrNo) := goodIn_app (goodIn_of _ (by decide +kernel)) ggX8_deleteFrom_X8_yesOrNo
theorem dX8_deleteFrom_0 : decode cX8_deleteFrom 0 = .ok (.aload_n 1, 1) := by decide +kernel
theorem dX8_deleteFrom_1 : decode cX8_deleteFrom 1 = .ok (.astore_n 3, 1) := by decide +kernel
theorem dX8_deleteFrom_2 : decode cX8_deleteFrom 2 = .ok (.iconst 0, 1) := by decide +kernel
theorem dX8_deleteFrom_3 : decode cX8_deleteFrom 3 = .ok (.istore 4, 2) := by decide +kernel
theorem dX8_deleteFrom_5 : decode cX8_deleteFrom 5 = .ok (.iload 4, 2) := by decide +kernel
theorem dX8_deleteFrom_7 : decode cX8_deleteFrom 7 = .ok (.bipush 12, 2) := by decide +kernel
theorem dX8_deleteFrom_9 : decode cX8_deleteFrom 9 = .ok (.if_icmp .ge 105, 3) := by decide +kernel
theorem dX8_deleteFrom_12 : decode cX8_deleteFrom 12 = .ok (.aload_n 3, 1) := by decide +kernel
theorem dX8_deleteFrom_13 : decode cX8_deleteFrom 13 = .ok (.ifnull 101, 3) := by decide +kernel
theorem dX8_deleteFrom_16 : decode cX8_deleteFrom 16 = .ok (.aload_n 3, 1) := by decide +kernel
theorem dX8_deleteFrom_17 : decode cX8_deleteFrom 17 = .ok (.invokevirtual 21, 3) := by decide +kernel
theorem dX8_deleteFrom_20 : decode cX8_deleteFrom 20 = .ok (.ifCond .ne 9, 3) := by decide +kernel
theorem dX8_deleteFrom_23 : decode cX8_deleteFrom 23 = .ok (.aload_n 3, 1) := by decide +kernel
theorem dX8_deleteFrom_24 : decode cX8_deleteFrom 24 = .ok (.iload_n 2, 1) := by decide +kernel
theorem dX8_deleteFrom_25 : decode cX8_deleteFrom 25 = .ok (.invokevirtual 81, 3) := by decide +kernel
theorem dX8_deleteFrom_28 : decode cX8_deleteFrom 28 = .ok (.ireturn, 1) := by decide +kernel
theorem dX8_deleteFrom_29 : decode cX8_deleteFrom 29 = .ok (.aload_n 3, 1) := by decide +kernel
theorem dX8_deleteFrom_30 : decode cX8_deleteFrom 30 = .ok (.getfield 25, 3) := by decide +kernel
theorem dX8_deleteFrom_33 : decode cX8_deleteFrom 33 = .ok (.ifCond .eq 6, 3) := by decide +kernel
theorem dX8_deleteFrom_36 : decode cX8_deleteFrom 36 = .ok (.bipush 84, 2) := by decide +kernel
theorem dX8_deleteFrom_38 : decode cX8_deleteFrom 38 = .ok (.ireturn, 1) := by decide +kernel
theorem dX8_deleteFrom_39 : decode cX8_deleteFrom 39 = .ok (.aload_n 3, 1) := by decide +kernel
theorem dX8_deleteFrom_40 : decode cX8_deleteFrom 40 = .ok (.iconst 3, 1) := by decide +kernel
theorem dX8_deleteFrom_41 : decode cX8_deleteFrom 41 = .ok (.invokevirtual 35, 3) := by decide +kernel
theorem dX8_deleteFrom_44 : decode cX8_deleteFrom 44 = .ok (.ifCond .eq 59, 3) := by decide +kernel
theorem dX8_deleteFrom_47 : decode cX8_deleteFrom 47 = .ok (.aload_n 3, 1) := by decide +kernel
theorem dX8_deleteFrom_48 : decode cX8_deleteFrom 48 = .ok (.iconst 3, 1) := by decide +kernel
theorem dX8_deleteFrom_49 : decode cX8_deleteFrom 49 = .ok (.invokevirtual 39, 3) := by decide +kernel
theorem dX8_deleteFrom_52 : decode cX8_deleteFrom 52 = .ok (.iconst 1, 1) := by decide +kernel
theorem dX8_deleteFrom_53 : decode cX8_deleteFrom 53 = .ok (.if_icmp .ne 7, 3) := by decide +kernel
theorem dX8_deleteFrom_56 : decode cX8_deleteFrom 56 = .ok (.iconst 1, 1) := by decide +kernel
theorem dX8_deleteFrom_57 : decode cX8_deleteFrom 57 = .ok (.goto 4, 3) := by decide +kernel
theorem dX8_deleteFrom_60 : decode cX8_deleteFrom 60 = .ok (.iconst 0, 1) := by decide +kernel
theorem dX8_deleteFrom_61 : decode cX8_deleteFrom 61 = .ok (.istore 5, 2) := by decide +kernel
theorem dX8_deleteFrom_63 : decode cX8_deleteFrom 63 = .ok (.aload_n 0, 1) := by decide +kernel
theorem dX8_deleteFrom_64 : decode cX8_deleteFrom 64 = .ok (.aload_n 3, 1) := by decide +kernel
theorem dX8_deleteFrom_65 : decode cX8_deleteFrom 65 = .ok (.getfield 29, 3) := by decide +kernel
theorem dX8_deleteFrom_68 : decode cX8_deleteFrom 68 = .ok (.invokevirtual 43, 3) := by decide +kernel
theorem dX8_deleteFrom_71 : decode cX8_deleteFrom 71 = .ok (.astore 6, 2) := by decide +kernel
theorem dX8_deleteFrom_73 : decode cX8_deleteFrom 73 = .ok (.aload 6, 2) := by decide +kernel
theorem dX8_deleteFrom_75 : decode cX8_deleteFrom 75 = .ok (.ifnull 17, 3) := by decide +kernel
theorem dX8_deleteFrom_78 : decode cX8_deleteFrom 78 = .ok (.iload 5, 2) := by decide +kernel
theorem dX8_deleteFrom_80 : decode cX8_deleteFrom 80 = .ok (.ifCond .eq 17, 3) := by decide +kernel
theorem dX8_deleteFrom_83 : decode cX8_deleteFrom 83 = .ok (.aload 6, 2) := by decide +kernel
theorem dX8_deleteFrom_85 : decode cX8_deleteFrom 85 = .ok (.iload_n 2, 1) := by decide +kernel
theorem dX8_deleteFrom_86 : decode cX8_deleteFrom 86 = .ok (.invokevirtual 60, 3) := by decide +kernel
theorem dX8_deleteFrom_89 : decode cX8_deleteFrom 89 = .ok (.ifCond .eq 8, 3) := by decide +kernel
theorem dX8_deleteFrom_92 : decode cX8_deleteFrom 92 = .ok (.bipush 84, 2) := by decide +kernel
theorem dX8_deleteFrom_94 : decode cX8_deleteFrom 94 = .ok (.goto 8, 3) := by decide +kernel
theorem dX8_deleteFrom_97 : decode cX8_deleteFrom 97 = .ok (.iload 5, 2) := by decide +kernel
theorem dX8_deleteFrom_99 : decode cX8_deleteFrom 99 = .ok (.invokestatic 63, 3) := by decide +kernel
theorem dX8_deleteFrom_102 : decode cX8_deleteFrom 102 = .ok (.ireturn, 1) := by decide +kernel
theorem dX8_deleteFrom_103 : decode cX8_deleteFrom 103 = .ok (.aload_n 3, 1) := by decide +kernel
theorem dX8_deleteFrom_104 : decode cX8_deleteFrom 104 = .ok (.getfield 29, 3) := by decide +kernel
theorem dX8_deleteFrom_107 : decode cX8_deleteFrom 107 = .ok (.astore_n 3, 1) := by decide +kernel
theorem dX8_deleteFrom_108 : decode cX8_deleteFrom 108 = .ok (.iinc 4 1, 3) := by decide +kernel
theorem dX8_deleteFrom_111 : decode cX8_deleteFrom 111 = .ok (.goto (-106), 3) := by decide +kernel
theorem dX8_deleteFrom_114 : decode cX8_deleteFrom 114 = .ok (.bipush 84, 2) := by decide +kernel
theorem dX8_deleteFrom_116 : decode cX8_deleteFrom 116 = .ok (.ireturn, 1) := by decide +kernel
set_option maxRecDepth 20000 in
theorem ggX8_chainTo_X7_isProxy : GoodIn wsX8_chainTo wsX7_isProxy := goodIn_r _ [7, 8, 9, 10, 11, 12, 13, 14, 15, 16, 17] (by decide +kernel) (by decide +kernel)
set_option maxRecDepth 20000 in
theorem gX8_chainTo_X7_isProxy : GoodIn wsX8_chainTo (wsV RX8 21 RX7 yX7_isProxy wsX7_isProxy) := goodIn_app (goodIn_of _ (by decide +kernel)) ggX8_chainTo_X7_isProxy
theorem dX8_chainTo_0 : decode cX8_chainTo 0 = .ok (.aload_n 1, 1) := by decide +kernel
theorem dX8_chainTo_1 : decode cX8_chainTo 1 = .ok (.getfield 57, 3) := by decide +kernel
theorem dX8_chainTo_4 : decode cX8_chainTo 4 = .ok (.aload_n 2, 1) := by decide +kernel
theorem dX8_chainTo_5 : decode cX8_chainTo 5 = .ok (.if_acmp .ne 6, 3) := by decide +kernel
theorem dX8_chainTo_8 : decode cX8_chainTo 8 = .ok (.bipush 121, 2) := by decide +kernel
theorem dX8_chainTo_10 : decode cX8_chainTo 10 = .ok (.ireturn, 1) := by decide +kernel
theorem dX8_chainTo_11 : decode cX8_chainTo 11 = .ok (.aload_n 1, 1) := by decide +kernel
theorem dX8_chainTo_12 : decode cX8_chainTo 12 = .ok (.getfield 85, 3) := by decide +kernel
theorem dX8_chainTo_15 : decode cX8_chainTo 15 = .ok (.ifCond .eq 6, 3) := by decide +kernel
theorem dX8_chainTo_18 : decode cX8_chainTo 18 = .ok (.bipush 110, 2) := by decide +kernel
theorem dX8_chainTo_20 : decode cX8_chainTo 20 = .ok (.ireturn, 1) := by decide +kernel
theorem dX8_chainTo_21 : decode cX8_chainTo 21 = .ok (.aload_n 2, 1) := by decide +kernel
theorem dX8_chainTo_22 : decode cX8_chainTo 22 = .ok (.astore_n 3, 1) := by decide +kernel
theorem dX8_chainTo_23 : decode cX8_chainTo 23 = .ok (.iconst 0, 1) := by decide +kernel
theorem dX8_chainTo_24 : decode cX8_chainTo 24 = .ok (.istore 4, 2) := by decide +kernel
theorem dX8_chainTo_26 : decode cX8_chainTo 26 = .ok (.iload 4, 2) := by decide +kernel
theorem dX8_chainTo_28 : decode cX8_chainTo 28 = .ok (.bipush 12, 2) := by decide +kernel
theorem dX8_chainTo_30 : decode cX8_chainTo 30 = .ok (.if_icmp .gt 33, 3) := by decide +kernel
theorem dX8_chainTo_33 : decode cX8_chainTo 33 = .ok (.aload_n 3, 1) := by decide +kernel
theorem dX8_chainTo_34 : decode cX8_chainTo 34 = .ok (.ifnull 29, 3) := by decide +kernel
theorem dX8_chainTo_37 : decode cX8_chainTo 37 = .ok (.aload_n 3, 1) := by decide +kernel
theorem dX8_chainTo_38 : decode cX8_chainTo 38 = .ok (.invokevirtual 21, 3) := by decide +kernel
theorem dX8_chainTo_41 : decode cX8_chainTo 41 = .ok (.ifCond .ne 22, 3) := by decide +kernel
theorem dX8_chainTo_44 : decode cX8_chainTo 44 = .ok (.aload_n 3, 1) := by decide +kernel
theorem dX8_chainTo_45 : decode cX8_chainTo 45 = .ok (.aload_n 1, 1) := by decide +kernel
theorem dX8_chainTo_46 : decode cX8_chainTo 46 = .ok (.if_acmp .ne 6, 3) := by decide +kernel
theorem dX8_chainTo_49 : decode cX8_chainTo 49 = .ok (.bipush 110, 2) := by decide +kernel
theorem dX8_chainTo_51 : decode cX8_chainTo 51 = .ok (.ireturn, 1) := by decide +kernel
theorem dX8_chainTo_52 : decode cX8_chainTo 52 = .ok (.aload_n 3, 1) := by decide +kernel
theorem dX8_chainTo_53 : decode cX8_chainTo 53 = .ok (.getfield 57, 3) := by decide +kernel
theorem dX8_chainTo_56 : decode cX8_chainTo 56 = .ok (.astore_n 3, 1) := by decide +kernel
theorem dX8_chainTo_57 : decode cX8_chainTo 57 = .ok (.iinc 4 1, 3) := by decide +kernel
theorem dX8_chainTo_60 : decode cX8_chainTo 60 = .ok (.goto (-34), 3) := by decide +kernel
theorem dX8_chainTo_63 : decode cX8_chainTo 63 = .ok (.aload_n 1, 1) := by decide +kernel
theorem dX8_chainTo_64 : decode cX8_chainTo 64 = .ok (.aload_n 2, 1) := by decide +kernel
theorem dX8_chainTo_65 : decode cX8_chainTo 65 = .ok (.putfield 57, 3) := by decide +kernel
theorem dX8_chainTo_68 : decode cX8_chainTo 68 = .ok (.bipush 121, 2) := by decide +kernel
theorem dX8_chainTo_70 : decode cX8_chainTo 70 = .ok (.ireturn, 1) := by decide +kernel
theorem dX8_yesOrNo_0 : decode cX8_yesOrNo 0 = .ok (.iload_n 0, 1) := by decide +kernel
theorem dX8_yesOrNo_1 : decode cX8_yesOrNo 1 = .ok (.ifCond .eq 8, 3) := by decide +kernel
theorem dX8_yesOrNo_4 : decode cX8_yesOrNo 4 = .ok (.bipush 121, 2) := by decide +kernel
theorem dX8_yesOrNo_6 : decode cX8_yesOrNo 6 = .ok (.goto 5, 3) := by decide +kernel
theorem dX8_yesOrNo_9 : decode cX8_yesOrNo 9 = .ok (.bipush 110, 2) := by decide +kernel
theorem dX8_yesOrNo_11 : decode cX8_yesOrNo 11 = .ok (.ireturn, 1) := by decide +kernel
set_option maxRecDepth 20000 in
theorem ggX8_areListed_X8_find : GoodIn wsX8_areListed wsX8_find := goodIn_r _ [6, 1, 7, 33, 34] (by decide +kernel) (by decide +kernel)
set_option maxRecDepth 20000 in
theorem gX8_areListed_X8_find : GoodIn wsX8_areListed (wsV RX8 88 RX8 yX8_find wsX8_find) := goodIn_app (goodIn_of _ (by decide +kernel)) ggX8_areListed_X8_find
set_option maxRecDepth 20000 in
theorem ggX8_areListed_X7_isProxy : GoodIn wsX8_areListed wsX7_isProxy := goodIn_r _ [12, 13, 35, 36, 37, 38, 39, 40, 41, 42, 43] (by decide +kernel) (by decide +kernel)
set_option maxRecDepth 20000 in
theorem gX8_areListed_X7_isProxy : GoodIn wsX8_areListed (wsV RX8 21 RX7 yX7_isProxy wsX7_isProxy) := goodIn_app (goodIn_of _ (by decide +kernel)) ggX8_areListed_X7_isProxy
set_option maxRecDepth 20000 in
theorem ggX8_areListed_X7_isListed : GoodIn wsX8_areListed wsX7_isListed := goodIn_ca (goodIn_r _ [17, 18, 19, 20, 21, 11, 22, 23, 24, 25, 26, 27, 28, 29, 30, 31, 32, 35, 36, 37, 38, 39, 40, 41, 42, 43] (by decide +kernel) (by decide +kernel)) (goodIn_sub (fun _ h => List.mem_cons_of_mem _ (List.mem_append_right _ h)) (by decide +kernel))
set_option maxRecDepth 20000 in
theorem gX8_areListed_X7_isListed : GoodIn wsX8_areListed (wsV RX8 92 RX7 yX7_isListed wsX7_isListed) := goodIn_app (goodIn_of _ (by decide +kernel)) ggX8_areListed_X7_isListed
theorem dX8_areListed_0 : decode cX8_areListed 0 = .ok (.iconst 0, 1) := by decide +kernel
theorem dX8_areListed_1 : decode cX8_areListed 1 = .ok (.istore_n 1, 1) := by decide +kernel
theorem dX8_areListed_2 : decode cX8_areListed 2 = .ok (.iload_n 1, 1) := by decide +kernel
theorem dX8_areListed_3 : decode cX8_areListed 3 = .ok (.aload_n 0, 1) := by decide +kernel
theorem dX8_areListed_4 : decode cX8_areListed 4 = .ok (.getfield 17, 3) := by decide +kernel
theorem dX8_areListed_7 : decode cX8_areListed 7 = .ok (.if_icmp .ge 35, 3) := by decide +kernel
theorem dX8_areListed_10 : decode cX8_areListed 10 = .ok (.aload_n 0, 1) := by decide +kernel
theorem dX8_areListed_11 : decode cX8_areListed 11 = .ok (.iload_n 1, 1) := by decide +kernel
theorem dX8_areListed_12 : decode cX8_areListed 12 = .ok (.invokevirtual 88, 3) := by decide +kernel
theorem dX8_areListed_15 : decode cX8_areListed 15 = .ok (.astore_n 2, 1) := by decide +kernel
theorem dX8_areListed_16 : decode cX8_areListed 16 = .ok (.aload_n 2, 1) := by decide +kernel
theorem dX8_areListed_17 : decode cX8_areListed 17 = .ok (.ifnull 19, 3) := by decide +kernel
theorem dX8_areListed_20 : decode cX8_areListed 20 = .ok (.aload_n 2, 1) := by decide +kernel
theorem dX8_areListed_21 : decode cX8_areListed 21 = .ok (.invokevirtual 21, 3) := by decide +kernel
theorem dX8_areListed_24 : decode cX8_areListed 24 = .ok (.ifCond .ne 12, 3) := by decide +kernel
theorem dX8_areListed_27 : decode cX8_areListed 27 = .ok (.aload_n 2, 1) := by decide +kernel
theorem dX8_areListed_28 : decode cX8_areListed 28 = .ok (.invokevirtual 92, 3) := by decide +kernel
theorem dX8_areListed_31 : decode cX8_areListed 31 = .ok (.ifCond .ne 5, 3) := by decide +kernel
theorem dX8_areListed_34 : decode cX8_areListed 34 = .ok (.iconst 0, 1) := by decide +kernel
theorem dX8_areListed_35 : decode cX8_areListed 35 = .ok (.ireturn, 1) := by decide +kernel
theorem dX8_areListed_36 : decode cX8_areListed 36 = .ok (.iinc 1 1, 3) := by decide +kernel
theorem dX8_areListed_39 : decode cX8_areListed 39 = .ok (.goto (-37), 3) := by decide +kernel
theorem dX8_areListed_42 : decode cX8_areListed 42 = .ok (.iconst 1, 1) := by decide +kernel
theorem dX8_areListed_43 : decode cX8_areListed 43 = .ok (.ireturn, 1) := by decide +kernel
theorem dX10_init_0 : decode cX10_init 0 = .ok (.aload_n 0, 1) := by decide +kernel
theorem dX10_init_1 : decode cX10_init 1 = .ok (.invokespecial 3, 3) := by decide +kernel
theorem dX10_init_4 : decode cX10_init 4 = .ok (.aload_n 0, 1) := by decide +kernel
theorem dX10_init_5 : decode cX10_init 5 = .ok (.iconst 4, 1) := by decide +kernel
theorem dX10_init_6 : decode cX10_init 6 = .ok (.anewarray 9, 3) := by decide +kernel
theorem dX10_init_9 : decode cX10_init 9 = .ok (.putfield 11, 3) := by decide +kernel
theorem dX10_init_12 : decode cX10_init 12 = .ok (.return_, 1) := by decide +kernel
set_option maxRecDepth 20000 in
theorem ggX11_init_X8_init : GoodIn wsX11_init wsX8_init := goodIn_r _ [21, 22, 2, 3, 23, 24, 58, 59] (by decide +kernel) (by decide +kernel)
set_option maxRecDepth 20000 in
theorem gX11_init_X8_init_n9 : GoodIn wsX11_init (wsX8_init) := ggX11_init_X8_init
set_option maxRecDepth 20000 in
theorem ggX11_init_X2_init : GoodIn wsX11_init wsX2_init := goodIn_r _ [26, 27, 2, 3] (by decide +kernel) (by decide +kernel)
set_option maxRecDepth 20000 in
theorem gX11_init_X2_init_n18 : GoodIn wsX11_init (wsX2_init) := ggX11_init_X2_init
set_option maxRecDepth 20000 in
theorem ggX11_init_X5_init : GoodIn wsX11_init wsX5_init := goodIn_r _ [30, 31, 2, 3, 32, 33, 34, 35, 36, 67, 68, 69, 70, 71, 72, 73, 74] (by decide +kernel) (by decide +kernel)
set_option maxRecDepth 20000 in
theorem gX11_init_X5_init : GoodIn wsX11_init (wsX5_init) := ggX11_init_X5_init
set_option maxRecDepth 20000 in
theorem ggX11_init_X3_init : GoodIn wsX11_init wsX3_init := goodIn_r _ [39, 40, 2, 3, 41, 42, 43, 44, 45, 46, 34, 47, 48, 49, 50, 51, 52, 53, 54, 55, 56, 57, 94, 95, 96, 75, 76, 77, 78, 79, 80, 81, 82, 83, 84, 85, 86, 87, 88, 89, 90, 91, 92, 93] (by decide +kernel) (by decide +kernel)
set_option maxRecDepth 20000 in
theorem gX11_init_X3_init : GoodIn wsX11_init (wsX3_init) := ggX11_init_X3_init
theorem dX11_init_0 : decode cX11_init 0 = .ok (.aload_n 0, 1) := by decide +kernel
theorem dX11_init_1 : decode cX11_init 1 = .ok (.invokespecial 1, 3) := by decide +kernel
theorem dX11_init_4 : decode cX11_init 4 = .ok (.aload_n 0, 1) := by decide +kernel
theorem dX11_init_5 : decode cX11_init 5 = .ok (.new 7, 3) := by decide +kernel
theorem dX11_init_8 : decode cX11_init 8 = .ok (.dup, 1) := by decide +kernel
theorem dX11_init_9 : decode cX11_init 9 = .ok (.invokespecial 9, 3) := by decide +kernel
theorem dX11_init_12 : decode cX11_init 12 = .ok (.putfield 10, 3) := by decide +kernel
theorem dX11_init_15 : decode cX11_init 15 = .ok (.aload_n 0, 1) := by decide +kernel
theorem dX11_init_16 : decode cX11_init 16 = .ok (.new 16, 3) := by decide +kernel
theorem dX11_init_19 : decode cX11_init 19 = .ok (.dup, 1) := by decide +kernel
theorem dX11_init_20 : decode cX11_init 20 = .ok (.invokespecial 18, 3) := by decide +kernel
theorem dX11_init_23 : decode cX11_init 23 = .ok (.putfield 19, 3) := by decide +kernel
theorem dX11_init_26 : decode cX11_init 26 = .ok (.aload_n 0, 1) := by decide +kernel
theorem dX11_init_27 : decode cX11_init 27 = .ok (.new 23, 3) := by decide +kernel
theorem dX11_init_30 : decode cX11_init 30 = .ok (.dup, 1) := by decide +kernel
theorem dX11_init_31 : decode cX11_init 31 = .ok (.aload_n 0, 1) := by decide +kernel
theorem dX11_init_32 : decode cX11_init 32 = .ok (.getfield 19, 3) := by decide +kernel
theorem dX11_init_35 : decode cX11_init 35 = .ok (.invokespecial 25, 3) := by decide +kernel
theorem dX11_init_38 : decode cX11_init 38 = .ok (.putfield 28, 3) := by decide +kernel
theorem dX11_init_41 : decode cX11_init 41 = .ok (.aload_n 0, 1) := by decide +kernel
theorem dX11_init_42 : decode cX11_init 42 = .ok (.new 32, 3) := by decide +kernel
theorem dX11_init_45 : decode cX11_init 45 = .ok (.dup, 1) := by decide +kernel
theorem dX11_init_46 : decode cX11_init 46 = .ok (.aload_n 0, 1) := by decide +kernel
theorem dX11_init_47 : decode cX11_init 47 = .ok (.getfield 10, 3) := by decide +kernel
theorem dX11_init_50 : decode cX11_init 50 = .ok (.aload_n 0, 1) := by decide +kernel
theorem dX11_init_51 : decode cX11_init 51 = .ok (.getfield 19, 3) := by decide +kernel
theorem dX11_init_54 : decode cX11_init 54 = .ok (.aload_n 0, 1) := by decide +kernel
theorem dX11_init_55 : decode cX11_init 55 = .ok (.getfield 28, 3) := by decide +kernel
theorem dX11_init_58 : decode cX11_init 58 = .ok (.invokespecial 34, 3) := by decide +kernel
theorem dX11_init_61 : decode cX11_init 61 = .ok (.putfield 37, 3) := by decide +kernel
theorem dX11_init_64 : decode cX11_init 64 = .ok (.return_, 1) := by decide +kernel
set_option maxRecDepth 20000 in
theorem ggX11_addObject_X8_find : GoodIn wsX11_addObject wsX8_find := goodIn_r _ [13, 14, 15, 55, 56] (by decide +kernel) (by decide +kernel)
set_option maxRecDepth 20000 in
theorem gX11_addObject_X8_find : GoodIn wsX11_addObject (wsV RX11 41 RX8 yX8_find wsX8_find) := goodIn_app (goodIn_of _ (by decide +kernel)) ggX11_addObject_X8_find
set_option maxRecDepth 20000 in
theorem ggX11_addObject_X8_isFull : GoodIn wsX11_addObject wsX8_isFull := goodIn_r _ [19, 14, 55, 56] (by decide +kernel) (by decide +kernel)
set_option maxRecDepth 20000 in
theorem gX11_addObject_X8_isFull : GoodIn wsX11_addObject (wsV RX11 52 RX8 yX8_isFull wsX8_isFull) := goodIn_app (goodIn_of _ (by decide +kernel)) ggX11_addObject_X8_isFull
set_option maxRecDepth 20000 in
theorem ggX11_addObject_X7_init : GoodIn wsX11_addObject wsX7_init := goodIn_r _ [22, 23, 24, 25, 26, 27, 28, 29, 30, 31, 32, 33, 34, 35, 36, 37, 46, 47, 48, 49, 50, 51, 52, 53, 54] (by decide +kernel) (by decide +kernel)
set_option maxRecDepth 20000 in
theorem gX11_addObject_X7_init : GoodIn wsX11_addObject (wsX7_init) := ggX11_addObject_X7_init
set_option maxRecDepth 20000 in
theorem ggX11_addObject_X8_append : GoodIn wsX11_addObject wsX8_append := goodIn_r _ [41, 14, 15, 55, 56] (by decide +kernel) (by decide +kernel)
set_option maxRecDepth 20000 in
theorem gX11_addObject_X8_append : GoodIn wsX11_addObject (wsV RX11 66 RX8 yX8_append wsX8_append) := goodIn_app (goodIn_of _ (by decide +kernel)) ggX11_addObject_X8_append
theorem dX11_addObject_0 : decode cX11_addObject 0 = .ok (.iload_n 1, 1) := by decide +kernel
theorem dX11_addObject_1 : decode cX11_addObject 1 = .ok (.iconst (-1), 1) := by decide +kernel
theorem dX11_addObject_2 : decode cX11_addObject 2 = .ok (.if_icmp .eq 24, 3) := by decide +kernel
theorem dX11_addObject_5 : decode cX11_addObject 5 = .ok (.aload_n 0, 1) := by decide +kernel
theorem dX11_addObject_6 : decode cX11_addObject 6 = .ok (.getfield 10, 3) := by decide +kernel
theorem dX11_addObject_9 : decode cX11_addObject 9 = .ok (.iload_n 1, 1) := by decide +kernel
theorem dX11_addObject_10 : decode cX11_addObject 10 = .ok (.invokevirtual 41, 3) := by decide +kernel
theorem dX11_addObject_13 : decode cX11_addObject 13 = .ok (.ifnonnull 13, 3) := by decide +kernel
theorem dX11_addObject_16 : decode cX11_addObject 16 = .ok (.new 45, 3) := by decide +kernel
theorem dX11_addObject_19 : decode cX11_addObject 19 = .ok (.dup, 1) := by decide +kernel
theorem dX11_addObject_20 : decode cX11_addObject 20 = .ok (.ldc 47, 2) := by decide +kernel
theorem dX11_addObject_22 : decode cX11_addObject 22 = .ok (.invokespecial 49, 3) := by decide +kernel
theorem dX11_addObject_25 : decode cX11_addObject 25 = .ok (.athrow, 1) := by decide +kernel
theorem dX11_addObject_26 : decode cX11_addObject 26 = .ok (.aload_n 0, 1) := by decide +kernel
theorem dX11_addObject_27 : decode cX11_addObject 27 = .ok (.getfield 10, 3) := by decide +kernel
theorem dX11_addObject_30 : decode cX11_addObject 30 = .ok (.invokevirtual 52, 3) := by decide +kernel
theorem dX11_addObject_33 : decode cX11_addObject 33 = .ok (.ifCond .eq 13, 3) := by decide +kernel
theorem dX11_addObject_36 : decode cX11_addObject 36 = .ok (.new 56, 3) := by decide +kernel
theorem dX11_addObject_39 : decode cX11_addObject 39 = .ok (.dup, 1) := by decide +kernel
theorem dX11_addObject_40 : decode cX11_addObject 40 = .ok (.ldc 58, 2) := by decide +kernel
theorem dX11_addObject_42 : decode cX11_addObject 42 = .ok (.invokespecial 60, 3) := by decide +kernel
theorem dX11_addObject_45 : decode cX11_addObject 45 = .ok (.athrow, 1) := by decide +kernel
theorem dX11_addObject_46 : decode cX11_addObject 46 = .ok (.aload_n 0, 1) := by decide +kernel
theorem dX11_addObject_47 : decode cX11_addObject 47 = .ok (.getfield 10, 3) := by decide +kernel
theorem dX11_addObject_50 : decode cX11_addObject 50 = .ok (.new 61, 3) := by decide +kernel
theorem dX11_addObject_53 : decode cX11_addObject 53 = .ok (.dup, 1) := by decide +kernel
theorem dX11_addObject_54 : decode cX11_addObject 54 = .ok (.aconst_null, 1) := by decide +kernel
theorem dX11_addObject_55 : decode cX11_addObject 55 = .ok (.aload_n 0, 1) := by decide +kernel
theorem dX11_addObject_56 : decode cX11_addObject 56 = .ok (.getfield 10, 3) := by decide +kernel
theorem dX11_addObject_59 : decode cX11_addObject 59 = .ok (.iload_n 1, 1) := by decide +kernel
theorem dX11_addObject_60 : decode cX11_addObject 60 = .ok (.invokevirtual 41, 3) := by decide +kernel
theorem dX11_addObject_63 : decode cX11_addObject 63 = .ok (.invokespecial 63, 3) := by decide +kernel
theorem dX11_addObject_66 : decode cX11_addObject 66 = .ok (.invokevirtual 66, 3) := by decide +kernel
theorem dX11_addObject_69 : decode cX11_addObject 69 = .ok (.ireturn, 1) := by decide +kernel
set_option maxRecDepth 20000 in
theorem ggX11_addProxy_X8_find : GoodIn wsX11_addProxy wsX8_find := goodIn_r _ [13, 14, 15, 55, 56] (by decide +kernel) (by decide +kernel)
set_option maxRecDepth 20000 in
theorem gX11_addProxy_X8_find : GoodIn wsX11_addProxy (wsV RX11 41 RX8 yX8_find wsX8_find) := goodIn_app (goodIn_of _ (by decide +kernel)) ggX11_addProxy_X8_find
set_option maxRecDepth 20000 in
theorem ggX11_addProxy_X8_isFull : GoodIn wsX11_addProxy wsX8_isFull := goodIn_r _ [19, 14, 55, 56] (by decide +kernel) (by decide +kernel)
set_option maxRecDepth 20000 in
theorem gX11_addProxy_X8_isFull : GoodIn wsX11_addProxy (wsV RX11 52 RX8 yX8_isFull wsX8_isFull) := goodIn_app (goodIn_of _ (by decide +kernel)) ggX11_addProxy_X8_isFull
set_option maxRecDepth 20000 in
theorem ggX11_addProxy_X7_init : GoodIn wsX11_addProxy wsX7_init := goodIn_r _ [22, 23, 24, 25, 26, 27, 28, 29, 30, 31, 32, 33, 34, 35, 36, 37, 46, 47, 48, 49, 50, 51, 52, 53, 54] (by decide +kernel) (by decide +kernel)
set_option maxRecDepth 20000 in
theorem gX11_addProxy_X7_init : GoodIn wsX11_addProxy (wsX7_init) := ggX11_addProxy_X7_init
set_option maxRecDepth 20000 in
theorem ggX11_addProxy_X8_append : GoodIn wsX11_addProxy wsX8_append := goodIn_r _ [41, 14, 15, 55, 56] (by decide +kernel) (by decide +kernel)
set_option maxRecDepth 20000 in
theorem gX11_addProxy_X8_append : GoodIn wsX11_addProxy (wsV RX11 66 RX8 yX8_append wsX8_append) := goodIn_app (goodIn_of _ (by decide +kernel)) ggX11_addProxy_X8_append
theorem dX11_addProxy_0 : decode cX11_addProxy 0 = .ok (.aload_n 0, 1) := by decide +kernel
theorem dX11_addProxy_1 : decode cX11_addProxy 1 = .ok (.getfield 10, 3) := by decide +kernel
theorem dX11_addProxy_4 : decode cX11_addProxy 4 = .ok (.iload_n 1, 1) := by decide +kernel
theorem dX11_addProxy_5 : decode cX11_addProxy 5 = .ok (.invokevirtual 41, 3) := by decide +kernel
theorem dX11_addProxy_8 : decode cX11_addProxy 8 = .ok (.astore_n 2, 1) := by decide +kernel
theorem dX11_addProxy_9 : decode cX11_addProxy 9 = .ok (.aload_n 2, 1) := by decide +kernel
theorem dX11_addProxy_10 : decode cX11_addProxy 10 = .ok (.ifnonnull 13, 3) := by decide +kernel
theorem dX11_addProxy_13 : decode cX11_addProxy 13 = .ok (.new 45, 3) := by decide +kernel
theorem dX11_addProxy_16 : decode cX11_addProxy 16 = .ok (.dup, 1) := by decide +kernel
theorem dX11_addProxy_17 : decode cX11_addProxy 17 = .ok (.ldc 47, 2) := by decide +kernel
theorem dX11_addProxy_19 : decode cX11_addProxy 19 = .ok (.invokespecial 49, 3) := by decide +kernel
theorem dX11_addProxy_22 : decode cX11_addProxy 22 = .ok (.athrow, 1) := by decide +kernel
theorem dX11_addProxy_23 : decode cX11_addProxy 23 = .ok (.aload_n 0, 1) := by decide +kernel
theorem dX11_addProxy_24 : decode cX11_addProxy 24 = .ok (.getfield 10, 3) := by decide +kernel
theorem dX11_addProxy_27 : decode cX11_addProxy 27 = .ok (.invokevirtual 52, 3) := by decide +kernel
theorem dX11_addProxy_30 : decode cX11_addProxy 30 = .ok (.ifCond .eq 13, 3) := by decide +kernel
theorem dX11_addProxy_33 : decode cX11_addProxy 33 = .ok (.new 56, 3) := by decide +kernel
theorem dX11_addProxy_36 : decode cX11_addProxy 36 = .ok (.dup, 1) := by decide +kernel
theorem dX11_addProxy_37 : decode cX11_addProxy 37 = .ok (.ldc 58, 2) := by decide +kernel
theorem dX11_addProxy_39 : decode cX11_addProxy 39 = .ok (.invokespecial 60, 3) := by decide +kernel
theorem dX11_addProxy_42 : decode cX11_addProxy 42 = .ok (.athrow, 1) := by decide +kernel
theorem dX11_addProxy_43 : decode cX11_addProxy 43 = .ok (.aload_n 0, 1) := by decide +kernel
theorem dX11_addProxy_44 : decode cX11_addProxy 44 = .ok (.getfield 10, 3) := by decide +kernel
theorem dX11_addProxy_47 : decode cX11_addProxy 47 = .ok (.new 61, 3) := by decide +kernel
theorem dX11_addProxy_50 : decode cX11_addProxy 50 = .ok (.dup, 1) := by decide +kernel
theorem dX11_addProxy_51 : decode cX11_addProxy 51 = .ok (.aload_n 2, 1) := by decide +kernel
theorem dX11_addProxy_52 : decode cX11_addProxy 52 = .ok (.aconst_null, 1) := by decide +kernel
theorem dX11_addProxy_53 : decode cX11_addProxy 53 = .ok (.invokespecial 63, 3) := by decide +kernel
theorem dX11_addProxy_56 : decode cX11_addProxy 56 = .ok (.invokevirtual 66, 3) := by decide +kernel
theorem dX11_addProxy_59 : decode cX11_addProxy 59 = .ok (.ireturn, 1) := by decide +kernel
set_option maxRecDepth 20000 in
theorem ggX11_tell_X8_find : GoodIn wsX11_tell wsX8_find := goodIn_r _ [12, 13, 14, 49, 50] (by decide +kernel) (by decide +kernel)
set_option maxRecDepth 20000 in
theorem gX11_tell_X8_find : GoodIn wsX11_tell (wsV RX11 41 RX8 yX8_find wsX8_find) := goodIn_app (goodIn_of _ (by decide +kernel)) ggX11_tell_X8_find
set_option maxRecDepth 20000 in
theorem ggX11_tell_X11_kindOf : GoodIn wsX11_tell wsX11_kindOf := goodIn_r _ [18] (by decide +kernel) (by decide +kernel)
set_option maxRecDepth 20000 in
theorem gX11_tell_X11_kindOf : GoodIn wsX11_tell (va_wsS RX11 70 yX11_kindOf wsX11_kindOf) := goodIn_app (goodIn_of _ (by decide +kernel)) ggX11_tell_X11_kindOf
set_option maxRecDepth 20000 in
theorem ggX11_tell_X11_isAnswer : GoodIn wsX11_tell wsX11_isAnswer := goodIn_r _ [21, 22, 23, 17, 24] (by decide +kernel) (by decide +kernel)
set_option maxRecDepth 20000 in
theorem gX11_tell_X11_isAnswer : GoodIn wsX11_tell (va_wsS RX11 74 yX11_isAnswer wsX11_isAnswer) := goodIn_app (goodIn_of _ (by decide +kernel)) ggX11_tell_X11_isAnswer
set_option maxRecDepth 20000 in
theorem ggX11_tell_X7_isProxy : GoodIn wsX11_tell wsX7_isProxy := goodIn_r _ [29, 30, 51, 52, 53, 54, 55, 56, 57, 58, 59] (by decide +kernel) (by decide +kernel)
set_option maxRecDepth 20000 in
theorem gX11_tell_X7_isProxy : GoodIn wsX11_tell (wsV RX11 83 RX7 yX7_isProxy wsX7_isProxy) := goodIn_app (goodIn_of _ (by decide +kernel)) ggX11_tell_X7_isProxy
set_option maxRecDepth 20000 in
theorem ggX11_tell_X7_isTold : GoodIn wsX11_tell wsX7_isTold := goodIn_ca (goodIn_r _ [34, 35, 36, 37, 38, 28, 39, 40, 51, 52, 53, 54, 55, 56, 57, 58, 59] (by decide +kernel) (by decide +kernel)) (goodIn_sub (fun _ h => List.mem_cons_of_mem _ (List.mem_append_right _ h)) (by decide +kernel))
set_option maxRecDepth 20000 in
theorem gX11_tell_X7_isTold : GoodIn wsX11_tell (wsV RX11 88 RX7 yX7_isTold wsX7_isTold) := goodIn_app (goodIn_of _ (by decide +kernel)) ggX11_tell_X7_isTold
set_option maxRecDepth 20000 in
theorem ggX11_tell_X7_keepAnswer : GoodIn wsX11_tell wsX7_keepAnswer := goodIn_ca (goodIn_r _ [44, 40, 51, 52, 53, 54, 55, 56, 57, 58, 59] (by decide +kernel) (by decide +kernel)) (goodIn_sub (fun _ h => List.mem_cons_of_mem _ (List.mem_append_right _ h)) (by decide +kernel))
set_option maxRecDepth 20000 in
theorem gX11_tell_X7_keepAnswer : GoodIn wsX11_tell (wsV RX11 92 RX7 yX7_keepAnswer wsX7_keepAnswer) := goodIn_app (goodIn_of _ (by decide +kernel)) ggX11_tell_X7_keepAnswer
theorem dX11_tell_0 : decode cX11_tell 0 = .ok (.aload_n 0, 1) := by decide +kernel
theorem dX11_tell_1 : decode cX11_tell 1 = .ok (.getfield 10, 3) := by decide +kernel
theorem dX11_tell_4 : decode cX11_tell 4 = .ok (.iload_n 1, 1) := by decide +kernel
theorem dX11_tell_5 : decode cX11_tell 5 = .ok (.invokevirtual 41, 3) := by decide +kernel
theorem dX11_tell_8 : decode cX11_tell 8 = .ok (.astore 4, 2) := by decide +kernel
theorem dX11_tell_10 : decode cX11_tell 10 = .ok (.aload 4, 2) := by decide +kernel
theorem dX11_tell_12 : decode cX11_tell 12 = .ok (.ifnonnull 13, 3) := by decide +kernel
theorem dX11_tell_15 : decode cX11_tell 15 = .ok (.new 45, 3) := by decide +kernel
theorem dX11_tell_18 : decode cX11_tell 18 = .ok (.dup, 1) := by decide +kernel
theorem dX11_tell_19 : decode cX11_tell 19 = .ok (.ldc 47, 2) := by decide +kernel
theorem dX11_tell_21 : decode cX11_tell 21 = .ok (.invokespecial 49, 3) := by decide +kernel
theorem dX11_tell_24 : decode cX11_tell 24 = .ok (.athrow, 1) := by decide +kernel
theorem dX11_tell_25 : decode cX11_tell 25 = .ok (.iload_n 2, 1) := by decide +kernel
theorem dX11_tell_26 : decode cX11_tell 26 = .ok (.invokestatic 70, 3) := by decide +kernel
theorem dX11_tell_29 : decode cX11_tell 29 = .ok (.istore 5, 2) := by decide +kernel
theorem dX11_tell_31 : decode cX11_tell 31 = .ok (.iload 5, 2) := by decide +kernel
theorem dX11_tell_33 : decode cX11_tell 33 = .ok (.iconst (-1), 1) := by decide +kernel
theorem dX11_tell_34 : decode cX11_tell 34 = .ok (.if_icmp .eq 12, 3) := by decide +kernel
theorem dX11_tell_37 : decode cX11_tell 37 = .ok (.iload 5, 2) := by decide +kernel
theorem dX11_tell_39 : decode cX11_tell 39 = .ok (.iload_n 3, 1) := by decide +kernel
theorem dX11_tell_40 : decode cX11_tell 40 = .ok (.invokestatic 74, 3) := by decide +kernel
theorem dX11_tell_43 : decode cX11_tell 43 = .ok (.ifCond .ne 13, 3) := by decide +kernel
theorem dX11_tell_46 : decode cX11_tell 46 = .ok (.new 78, 3) := by decide +kernel
theorem dX11_tell_49 : decode cX11_tell 49 = .ok (.dup, 1) := by decide +kernel
theorem dX11_tell_50 : decode cX11_tell 50 = .ok (.ldc 80, 2) := by decide +kernel
theorem dX11_tell_52 : decode cX11_tell 52 = .ok (.invokespecial 82, 3) := by decide +kernel
theorem dX11_tell_55 : decode cX11_tell 55 = .ok (.athrow, 1) := by decide +kernel
theorem dX11_tell_56 : decode cX11_tell 56 = .ok (.aload 4, 2) := by decide +kernel
theorem dX11_tell_58 : decode cX11_tell 58 = .ok (.invokevirtual 83, 3) := by decide +kernel
theorem dX11_tell_61 : decode cX11_tell 61 = .ok (.ifCond .ne 13, 3) := by decide +kernel
theorem dX11_tell_64 : decode cX11_tell 64 = .ok (.new 56, 3) := by decide +kernel
theorem dX11_tell_67 : decode cX11_tell 67 = .ok (.dup, 1) := by decide +kernel
theorem dX11_tell_68 : decode cX11_tell 68 = .ok (.ldc 86, 2) := by decide +kernel
theorem dX11_tell_70 : decode cX11_tell 70 = .ok (.invokespecial 60, 3) := by decide +kernel
theorem dX11_tell_73 : decode cX11_tell 73 = .ok (.athrow, 1) := by decide +kernel
theorem dX11_tell_74 : decode cX11_tell 74 = .ok (.aload 4, 2) := by decide +kernel
theorem dX11_tell_76 : decode cX11_tell 76 = .ok (.iload 5, 2) := by decide +kernel
theorem dX11_tell_78 : decode cX11_tell 78 = .ok (.invokevirtual 88, 3) := by decide +kernel
theorem dX11_tell_81 : decode cX11_tell 81 = .ok (.istore 6, 2) := by decide +kernel
theorem dX11_tell_83 : decode cX11_tell 83 = .ok (.aload 4, 2) := by decide +kernel
theorem dX11_tell_85 : decode cX11_tell 85 = .ok (.iload 5, 2) := by decide +kernel
theorem dX11_tell_87 : decode cX11_tell 87 = .ok (.iload_n 3, 1) := by decide +kernel
theorem dX11_tell_88 : decode cX11_tell 88 = .ok (.invokevirtual 92, 3) := by decide +kernel
theorem dX11_tell_91 : decode cX11_tell 91 = .ok (.iload 6, 2) := by decide +kernel
theorem dX11_tell_93 : decode cX11_tell 93 = .ok (.ireturn, 1) := by decide +kernel
set_option maxRecDepth 20000 in
theorem ggX11_revoke_X8_find : GoodIn wsX11_revoke wsX8_find := goodIn_r _ [11, 12, 13, 33, 34] (by decide +kernel) (by decide +kernel)
set_option maxRecDepth 20000 in
theorem gX11_revoke_X8_find : GoodIn wsX11_revoke (wsV RX11 41 RX8 yX8_find wsX8_find) := goodIn_app (goodIn_of _ (by decide +kernel)) ggX11_revoke_X8_find
set_option maxRecDepth 20000 in
theorem ggX11_revoke_X7_isProxy : GoodIn wsX11_revoke wsX7_isProxy := goodIn_r _ [18, 19, 24, 25, 26, 27, 28, 29, 30, 31, 32] (by decide +kernel) (by decide +kernel)
set_option maxRecDepth 20000 in
theorem gX11_revoke_X7_isProxy : GoodIn wsX11_revoke (wsV RX11 83 RX7 yX7_isProxy wsX7_isProxy) := goodIn_app (goodIn_of _ (by decide +kernel)) ggX11_revoke_X7_isProxy
theorem dX11_revoke_0 : decode cX11_revoke 0 = .ok (.aload_n 0, 1) := by decide +kernel
theorem dX11_revoke_1 : decode cX11_revoke 1 = .ok (.getfield 10, 3) := by decide +kernel
theorem dX11_revoke_4 : decode cX11_revoke 4 = .ok (.iload_n 1, 1) := by decide +kernel
theorem dX11_revoke_5 : decode cX11_revoke 5 = .ok (.invokevirtual 41, 3) := by decide +kernel
theorem dX11_revoke_8 : decode cX11_revoke 8 = .ok (.astore_n 2, 1) := by decide +kernel
theorem dX11_revoke_9 : decode cX11_revoke 9 = .ok (.aload_n 2, 1) := by decide +kernel
theorem dX11_revoke_10 : decode cX11_revoke 10 = .ok (.ifnonnull 13, 3) := by decide +kernel
theorem dX11_revoke_13 : decode cX11_revoke 13 = .ok (.new 45, 3) := by decide +kernel
theorem dX11_revoke_16 : decode cX11_revoke 16 = .ok (.dup, 1) := by decide +kernel
theorem dX11_revoke_17 : decode cX11_revoke 17 = .ok (.ldc 47, 2) := by decide +kernel
theorem dX11_revoke_19 : decode cX11_revoke 19 = .ok (.invokespecial 49, 3) := by decide +kernel
theorem dX11_revoke_22 : decode cX11_revoke 22 = .ok (.athrow, 1) := by decide +kernel
theorem dX11_revoke_23 : decode cX11_revoke 23 = .ok (.aload_n 2, 1) := by decide +kernel
theorem dX11_revoke_24 : decode cX11_revoke 24 = .ok (.invokevirtual 83, 3) := by decide +kernel
theorem dX11_revoke_27 : decode cX11_revoke 27 = .ok (.ifCond .ne 13, 3) := by decide +kernel
theorem dX11_revoke_30 : decode cX11_revoke 30 = .ok (.new 56, 3) := by decide +kernel
theorem dX11_revoke_33 : decode cX11_revoke 33 = .ok (.dup, 1) := by decide +kernel
theorem dX11_revoke_34 : decode cX11_revoke 34 = .ok (.ldc 86, 2) := by decide +kernel
theorem dX11_revoke_36 : decode cX11_revoke 36 = .ok (.invokespecial 60, 3) := by decide +kernel
theorem dX11_revoke_39 : decode cX11_revoke 39 = .ok (.athrow, 1) := by decide +kernel
theorem dX11_revoke_40 : decode cX11_revoke 40 = .ok (.aload_n 2, 1) := by decide +kernel
theorem dX11_revoke_41 : decode cX11_revoke 41 = .ok (.getfield 96, 3) := by decide +kernel
theorem dX11_revoke_44 : decode cX11_revoke 44 = .ok (.istore_n 3, 1) := by decide +kernel
theorem dX11_revoke_45 : decode cX11_revoke 45 = .ok (.aload_n 2, 1) := by decide +kernel
theorem dX11_revoke_46 : decode cX11_revoke 46 = .ok (.iconst 1, 1) := by decide +kernel
theorem dX11_revoke_47 : decode cX11_revoke 47 = .ok (.putfield 96, 3) := by decide +kernel
theorem dX11_revoke_50 : decode cX11_revoke 50 = .ok (.iload_n 3, 1) := by decide +kernel
theorem dX11_revoke_51 : decode cX11_revoke 51 = .ok (.ireturn, 1) := by decide +kernel
set_option maxRecDepth 20000 in
theorem ggX11_define_X8_find : GoodIn wsX11_define wsX8_find := goodIn_r _ [10, 11, 12, 60, 61] (by decide +kernel) (by decide +kernel)
set_option maxRecDepth 20000 in
theorem gX11_define_X8_find : GoodIn wsX11_define (wsV RX11 41 RX8 yX8_find wsX8_find) := goodIn_app (goodIn_of _ (by decide +kernel)) ggX11_define_X8_find
set_option maxRecDepth 20000 in
theorem ggX11_define_X11_isKey : GoodIn wsX11_define wsX11_isKey := goodIn_r _ [16] (by decide +kernel) (by decide +kernel)
set_option maxRecDepth 20000 in
theorem gX11_define_X11_isKey : GoodIn wsX11_define (va_wsS RX11 100 yX11_isKey wsX11_isKey) := goodIn_app (goodIn_of _ (by decide +kernel)) ggX11_define_X11_isKey
set_option maxRecDepth 20000 in
theorem ggX11_define_X11_isValue : GoodIn wsX11_define wsX11_isValue := goodIn_r _ [19] (by decide +kernel) (by decide +kernel)
set_option maxRecDepth 20000 in
theorem gX11_define_X11_isValue : GoodIn wsX11_define (va_wsS RX11 105 yX11_isValue wsX11_isValue) := goodIn_app (goodIn_of _ (by decide +kernel)) ggX11_define_X11_isValue
set_option maxRecDepth 20000 in
theorem ggX11_define_X8_plainBehind : GoodIn wsX11_define wsX8_plainBehind := goodIn_r _ [23, 24, 25, 26, 27, 28, 29, 30, 31, 62, 63, 64, 65, 66, 67, 68, 69, 70] (by decide +kernel) (by decide +kernel)
set_option maxRecDepth 20000 in
theorem gX11_define_X8_plainBehind : GoodIn wsX11_define (wsV RX11 110 RX8 yX8_plainBehind wsX8_plainBehind) := goodIn_app (goodIn_of _ (by decide +kernel)) ggX11_define_X8_plainBehind
set_option maxRecDepth 20000 in
theorem ggX11_define_X7_putIn : GoodIn wsX11_define wsX7_putIn := goodIn_ca (goodIn_r _ [35, 36, 37, 38, 39, 40, 41, 29, 42, 43, 44, 45, 46, 47, 48, 49, 50, 51, 52, 53, 54, 55, 62, 63, 64, 65, 66, 67, 68, 69, 70] (by decide +kernel) (by decide +kernel)) (goodIn_sub (fun _ h => List.mem_cons_of_mem _ (List.mem_append_right _ h)) (by decide +kernel))
set_option maxRecDepth 20000 in
theorem gX11_define_X7_putIn : GoodIn wsX11_define (wsV RX11 114 RX7 yX7_putIn wsX7_putIn) := goodIn_app (goodIn_of _ (by decide +kernel)) ggX11_define_X7_putIn
theorem dX11_define_0 : decode cX11_define 0 = .ok (.aload_n 0, 1) := by decide +kernel
theorem dX11_define_1 : decode cX11_define 1 = .ok (.getfield 10, 3) := by decide +kernel
theorem dX11_define_4 : decode cX11_define 4 = .ok (.iload_n 1, 1) := by decide +kernel
theorem dX11_define_5 : decode cX11_define 5 = .ok (.invokevirtual 41, 3) := by decide +kernel
theorem dX11_define_8 : decode cX11_define 8 = .ok (.astore 5, 2) := by decide +kernel
theorem dX11_define_10 : decode cX11_define 10 = .ok (.aload 5, 2) := by decide +kernel
theorem dX11_define_12 : decode cX11_define 12 = .ok (.ifnull 10, 3) := by decide +kernel
theorem dX11_define_15 : decode cX11_define 15 = .ok (.iload_n 2, 1) := by decide +kernel
theorem dX11_define_16 : decode cX11_define 16 = .ok (.invokestatic 100, 3) := by decide +kernel
theorem dX11_define_19 : decode cX11_define 19 = .ok (.ifCond .ne 13, 3) := by decide +kernel
theorem dX11_define_22 : decode cX11_define 22 = .ok (.new 45, 3) := by decide +kernel
theorem dX11_define_25 : decode cX11_define 25 = .ok (.dup, 1) := by decide +kernel
theorem dX11_define_26 : decode cX11_define 26 = .ok (.ldc 103, 2) := by decide +kernel
theorem dX11_define_28 : decode cX11_define 28 = .ok (.invokespecial 49, 3) := by decide +kernel
theorem dX11_define_31 : decode cX11_define 31 = .ok (.athrow, 1) := by decide +kernel
theorem dX11_define_32 : decode cX11_define 32 = .ok (.iload_n 3, 1) := by decide +kernel
theorem dX11_define_33 : decode cX11_define 33 = .ok (.invokestatic 105, 3) := by decide +kernel
theorem dX11_define_36 : decode cX11_define 36 = .ok (.ifCond .eq 15, 3) := by decide +kernel
theorem dX11_define_39 : decode cX11_define 39 = .ok (.iload 4, 2) := by decide +kernel
theorem dX11_define_41 : decode cX11_define 41 = .ok (.ifCond .lt 10, 3) := by decide +kernel
theorem dX11_define_44 : decode cX11_define 44 = .ok (.iload 4, 2) := by decide +kernel
theorem dX11_define_46 : decode cX11_define 46 = .ok (.bipush 7, 2) := by decide +kernel
theorem dX11_define_48 : decode cX11_define 48 = .ok (.if_icmp .le 13, 3) := by decide +kernel
theorem dX11_define_51 : decode cX11_define 51 = .ok (.new 78, 3) := by decide +kernel
theorem dX11_define_54 : decode cX11_define 54 = .ok (.dup, 1) := by decide +kernel
theorem dX11_define_55 : decode cX11_define 55 = .ok (.ldc 108, 2) := by decide +kernel
theorem dX11_define_57 : decode cX11_define 57 = .ok (.invokespecial 82, 3) := by decide +kernel
theorem dX11_define_60 : decode cX11_define 60 = .ok (.athrow, 1) := by decide +kernel
theorem dX11_define_61 : decode cX11_define 61 = .ok (.aload_n 0, 1) := by decide +kernel
theorem dX11_define_62 : decode cX11_define 62 = .ok (.getfield 10, 3) := by decide +kernel
theorem dX11_define_65 : decode cX11_define 65 = .ok (.aload 5, 2) := by decide +kernel
theorem dX11_define_67 : decode cX11_define 67 = .ok (.invokevirtual 110, 3) := by decide +kernel
theorem dX11_define_70 : decode cX11_define 70 = .ok (.astore 6, 2) := by decide +kernel
theorem dX11_define_72 : decode cX11_define 72 = .ok (.aload 6, 2) := by decide +kernel
theorem dX11_define_74 : decode cX11_define 74 = .ok (.ifnonnull 8, 3) := by decide +kernel
theorem dX11_define_77 : decode cX11_define 77 = .ok (.bipush 84, 2) := by decide +kernel
theorem dX11_define_79 : decode cX11_define 79 = .ok (.goto 12, 3) := by decide +kernel
theorem dX11_define_82 : decode cX11_define 82 = .ok (.aload 6, 2) := by decide +kernel
theorem dX11_define_84 : decode cX11_define 84 = .ok (.iload_n 2, 1) := by decide +kernel
theorem dX11_define_85 : decode cX11_define 85 = .ok (.iload_n 3, 1) := by decide +kernel
theorem dX11_define_86 : decode cX11_define 86 = .ok (.iload 4, 2) := by decide +kernel
theorem dX11_define_88 : decode cX11_define 88 = .ok (.invokevirtual 114, 3) := by decide +kernel
theorem dX11_define_91 : decode cX11_define 91 = .ok (.ireturn, 1) := by decide +kernel
set_option maxRecDepth 20000 in
theorem ggX11_set_X8_find : GoodIn wsX11_set wsX8_find := goodIn_r _ [10, 11, 12, 97, 98] (by decide +kernel) (by decide +kernel)
set_option maxRecDepth 20000 in
theorem gX11_set_X8_find : GoodIn wsX11_set (wsV RX11 41 RX8 yX8_find wsX8_find) := goodIn_app (goodIn_of _ (by decide +kernel)) ggX11_set_X8_find
set_option maxRecDepth 20000 in
theorem ggX11_set_X11_isKey : GoodIn wsX11_set wsX11_isKey := goodIn_r _ [16] (by decide +kernel) (by decide +kernel)
set_option maxRecDepth 20000 in
theorem gX11_set_X11_isKey : GoodIn wsX11_set (va_wsS RX11 100 yX11_isKey wsX11_isKey) := goodIn_app (goodIn_of _ (by decide +kernel)) ggX11_set_X11_isKey
set_option maxRecDepth 20000 in
theorem ggX11_set_X11_isValue : GoodIn wsX11_set wsX11_isValue := goodIn_r _ [19] (by decide +kernel) (by decide +kernel)
set_option maxRecDepth 20000 in
theorem gX11_set_X11_isValue : GoodIn wsX11_set (va_wsS RX11 105 yX11_isValue wsX11_isValue) := goodIn_app (goodIn_of _ (by decide +kernel)) ggX11_set_X11_isValue
set_option maxRecDepth 20000 in
theorem ggX11_set_X8_setFrom : GoodIn wsX11_set wsX8_setFrom := goodIn_ca (goodIn_r _ [23, 24, 25, 26, 27, 28, 29, 30, 31, 32, 33, 34, 35, 36, 37, 38, 39, 40, 41, 42, 43, 44, 45, 46, 9, 47, 48, 49, 50, 51, 52, 53, 54, 55, 56, 57, 58, 59, 60, 61, 62, 63, 64, 65, 66, 67, 68, 69, 70, 71, 72, 73, 74, 75, 76, 77, 78, 79, 80, 81, 82, 83, 84, 85, 86, 87, 88, 89, 90, 91, 92, 99, 100, 101, 102, 103, 104, 105, 106, 107] (by decide +kernel) (by decide +kernel)) (goodIn_sub (fun _ h => List.mem_cons_of_mem _ (List.mem_append_right _ h)) (by decide +kernel))
set_option maxRecDepth 20000 in
theorem gX11_set_X8_setFrom : GoodIn wsX11_set (wsV RX11 120 RX8 yX8_setFrom wsX8_setFrom) := goodIn_app (goodIn_of _ (by decide +kernel)) ggX11_set_X8_setFrom
theorem dX11_set_0 : decode cX11_set 0 = .ok (.aload_n 0, 1) := by decide +kernel
theorem dX11_set_1 : decode cX11_set 1 = .ok (.getfield 10, 3) := by decide +kernel
theorem dX11_set_4 : decode cX11_set 4 = .ok (.iload_n 1, 1) := by decide +kernel
theorem dX11_set_5 : decode cX11_set 5 = .ok (.invokevirtual 41, 3) := by decide +kernel
theorem dX11_set_8 : decode cX11_set 8 = .ok (.astore 4, 2) := by decide +kernel
theorem dX11_set_10 : decode cX11_set 10 = .ok (.aload 4, 2) := by decide +kernel
theorem dX11_set_12 : decode cX11_set 12 = .ok (.ifnull 10, 3) := by decide +kernel
theorem dX11_set_15 : decode cX11_set 15 = .ok (.iload_n 2, 1) := by decide +kernel
theorem dX11_set_16 : decode cX11_set 16 = .ok (.invokestatic 100, 3) := by decide +kernel
theorem dX11_set_19 : decode cX11_set 19 = .ok (.ifCond .ne 13, 3) := by decide +kernel
theorem dX11_set_22 : decode cX11_set 22 = .ok (.new 45, 3) := by decide +kernel
theorem dX11_set_25 : decode cX11_set 25 = .ok (.dup, 1) := by decide +kernel
theorem dX11_set_26 : decode cX11_set 26 = .ok (.ldc 103, 2) := by decide +kernel
theorem dX11_set_28 : decode cX11_set 28 = .ok (.invokespecial 49, 3) := by decide +kernel
theorem dX11_set_31 : decode cX11_set 31 = .ok (.athrow, 1) := by decide +kernel
theorem dX11_set_32 : decode cX11_set 32 = .ok (.iload_n 3, 1) := by decide +kernel
theorem dX11_set_33 : decode cX11_set 33 = .ok (.invokestatic 105, 3) := by decide +kernel
theorem dX11_set_36 : decode cX11_set 36 = .ok (.ifCond .ne 13, 3) := by decide +kernel
theorem dX11_set_39 : decode cX11_set 39 = .ok (.new 78, 3) := by decide +kernel
theorem dX11_set_42 : decode cX11_set 42 = .ok (.dup, 1) := by decide +kernel
theorem dX11_set_43 : decode cX11_set 43 = .ok (.ldc 118, 2) := by decide +kernel
theorem dX11_set_45 : decode cX11_set 45 = .ok (.invokespecial 82, 3) := by decide +kernel
theorem dX11_set_48 : decode cX11_set 48 = .ok (.athrow, 1) := by decide +kernel
theorem dX11_set_49 : decode cX11_set 49 = .ok (.aload_n 0, 1) := by decide +kernel
theorem dX11_set_50 : decode cX11_set 50 = .ok (.getfield 10, 3) := by decide +kernel
theorem dX11_set_53 : decode cX11_set 53 = .ok (.aload 4, 2) := by decide +kernel
theorem dX11_set_55 : decode cX11_set 55 = .ok (.iload_n 2, 1) := by decide +kernel
theorem dX11_set_56 : decode cX11_set 56 = .ok (.iload_n 3, 1) := by decide +kernel
theorem dX11_set_57 : decode cX11_set 57 = .ok (.invokevirtual 120, 3) := by decide +kernel
theorem dX11_set_60 : decode cX11_set 60 = .ok (.ireturn, 1) := by decide +kernel
set_option maxRecDepth 20000 in
theorem ggX11_get_X8_find : GoodIn wsX11_get wsX8_find := goodIn_r _ [11, 12, 13, 71, 72] (by decide +kernel) (by decide +kernel)
set_option maxRecDepth 20000 in
theorem gX11_get_X8_find : GoodIn wsX11_get (wsV RX11 41 RX8 yX8_find wsX8_find) := goodIn_app (goodIn_of _ (by decide +kernel)) ggX11_get_X8_find
set_option maxRecDepth 20000 in
theorem ggX11_get_X11_isKey : GoodIn wsX11_get wsX11_isKey := goodIn_r _ [17] (by decide +kernel) (by decide +kernel)
set_option maxRecDepth 20000 in
theorem gX11_get_X11_isKey : GoodIn wsX11_get (va_wsS RX11 100 yX11_isKey wsX11_isKey) := goodIn_app (goodIn_of _ (by decide +kernel)) ggX11_get_X11_isKey
set_option maxRecDepth 20000 in
theorem ggX11_get_X8_getFrom : GoodIn wsX11_get wsX8_getFrom := goodIn_ca (goodIn_r _ [21, 22, 23, 24, 25, 26, 27, 28, 29, 30, 31, 32, 33, 34, 35, 36, 37, 38, 39, 40, 41, 42, 43, 44, 45, 10, 46, 47, 48, 49, 50, 51, 52, 53, 54, 55, 56, 57, 58, 59, 60, 61, 62, 63, 64, 65, 66, 73, 74, 75, 76, 77, 78, 79, 80, 81] (by decide +kernel) (by decide +kernel)) (goodIn_sub (fun _ h => List.mem_cons_of_mem _ (List.mem_append_right _ h)) (by decide +kernel))
set_option maxRecDepth 20000 in
theorem gX11_get_X8_getFrom : GoodIn wsX11_get (wsV RX11 124 RX8 yX8_getFrom wsX8_getFrom) := goodIn_app (goodIn_of _ (by decide +kernel)) ggX11_get_X8_getFrom
theorem dX11_get_0 : decode cX11_get 0 = .ok (.aload_n 0, 1) := by decide +kernel
theorem dX11_get_1 : decode cX11_get 1 = .ok (.getfield 10, 3) := by decide +kernel
theorem dX11_get_4 : decode cX11_get 4 = .ok (.iload_n 1, 1) := by decide +kernel
theorem dX11_get_5 : decode cX11_get 5 = .ok (.invokevirtual 41, 3) := by decide +kernel
theorem dX11_get_8 : decode cX11_get 8 = .ok (.astore_n 3, 1) := by decide +kernel
theorem dX11_get_9 : decode cX11_get 9 = .ok (.aload_n 3, 1) := by decide +kernel
theorem dX11_get_10 : decode cX11_get 10 = .ok (.ifnull 10, 3) := by decide +kernel
theorem dX11_get_13 : decode cX11_get 13 = .ok (.iload_n 2, 1) := by decide +kernel
theorem dX11_get_14 : decode cX11_get 14 = .ok (.invokestatic 100, 3) := by decide +kernel
theorem dX11_get_17 : decode cX11_get 17 = .ok (.ifCond .ne 13, 3) := by decide +kernel
theorem dX11_get_20 : decode cX11_get 20 = .ok (.new 45, 3) := by decide +kernel
theorem dX11_get_23 : decode cX11_get 23 = .ok (.dup, 1) := by decide +kernel
theorem dX11_get_24 : decode cX11_get 24 = .ok (.ldc 103, 2) := by decide +kernel
theorem dX11_get_26 : decode cX11_get 26 = .ok (.invokespecial 49, 3) := by decide +kernel
theorem dX11_get_29 : decode cX11_get 29 = .ok (.athrow, 1) := by decide +kernel
theorem dX11_get_30 : decode cX11_get 30 = .ok (.aload_n 0, 1) := by decide +kernel
theorem dX11_get_31 : decode cX11_get 31 = .ok (.getfield 10, 3) := by decide +kernel
theorem dX11_get_34 : decode cX11_get 34 = .ok (.aload_n 3, 1) := by decide +kernel
theorem dX11_get_35 : decode cX11_get 35 = .ok (.iload_n 2, 1) := by decide +kernel
theorem dX11_get_36 : decode cX11_get 36 = .ok (.invokevirtual 124, 3) := by decide +kernel
theorem dX11_get_39 : decode cX11_get 39 = .ok (.lstore 4, 2) := by decide +kernel
theorem dX11_get_41 : decode cX11_get 41 = .ok (.lload 4, 2) := by decide +kernel
theorem dX11_get_43 : decode cX11_get 43 = .ok (.ldc2_w 128, 3) := by decide +kernel
theorem dX11_get_46 : decode cX11_get 46 = .ok (.lcmp, 1) := by decide +kernel
theorem dX11_get_47 : decode cX11_get 47 = .ok (.ifCond .ne 13, 3) := by decide +kernel
theorem dX11_get_50 : decode cX11_get 50 = .ok (.new 130, 3) := by decide +kernel
theorem dX11_get_53 : decode cX11_get 53 = .ok (.dup, 1) := by decide +kernel
theorem dX11_get_54 : decode cX11_get 54 = .ok (.ldc 132, 2) := by decide +kernel
theorem dX11_get_56 : decode cX11_get 56 = .ok (.invokespecial 134, 3) := by decide +kernel
theorem dX11_get_59 : decode cX11_get 59 = .ok (.athrow, 1) := by decide +kernel
theorem dX11_get_60 : decode cX11_get 60 = .ok (.lload 4, 2) := by decide +kernel
theorem dX11_get_62 : decode cX11_get 62 = .ok (.l2i, 1) := by decide +kernel
theorem dX11_get_63 : decode cX11_get 63 = .ok (.ireturn, 1) := by decide +kernel
set_option maxRecDepth 20000 in
theorem ggX11_has_X8_find : GoodIn wsX11_has wsX8_find := goodIn_r _ [8, 9, 10, 65, 66] (by decide +kernel) (by decide +kernel)
set_option maxRecDepth 20000 in
theorem gX11_has_X8_find : GoodIn wsX11_has (wsV RX11 41 RX8 yX8_find wsX8_find) := goodIn_app (goodIn_of _ (by decide +kernel)) ggX11_has_X8_find
set_option maxRecDepth 20000 in
theorem ggX11_has_X11_isKey : GoodIn wsX11_has wsX11_isKey := goodIn_r _ [14] (by decide +kernel) (by decide +kernel)
set_option maxRecDepth 20000 in
theorem gX11_has_X11_isKey : GoodIn wsX11_has (va_wsS RX11 100 yX11_isKey wsX11_isKey) := goodIn_app (goodIn_of _ (by decide +kernel)) ggX11_has_X11_isKey
set_option maxRecDepth 20000 in
theorem ggX11_has_X8_askFrom : GoodIn wsX11_has wsX8_askFrom := goodIn_ca (goodIn_r _ [18, 19, 20, 21, 22, 23, 24, 25, 26, 27, 28, 29, 30, 31, 32, 33, 34, 35, 36, 37, 38, 39, 40, 41, 7, 42, 43, 44, 45, 46, 47, 48, 49, 50, 51, 52, 53, 54, 55, 56, 57, 58, 59, 60, 67, 68, 69, 70, 71, 72, 73, 74, 75] (by decide +kernel) (by decide +kernel)) (goodIn_sub (fun _ h => List.mem_cons_of_mem _ (List.mem_append_right _ h)) (by decide +kernel))
set_option maxRecDepth 20000 in
theorem gX11_has_X8_askFrom : GoodIn wsX11_has (wsV RX11 135 RX8 yX8_askFrom wsX8_askFrom) := goodIn_app (goodIn_of _ (by decide +kernel)) ggX11_has_X8_askFrom
theorem dX11_has_0 : decode cX11_has 0 = .ok (.aload_n 0, 1) := by decide +kernel
theorem dX11_has_1 : decode cX11_has 1 = .ok (.getfield 10, 3) := by decide +kernel
theorem dX11_has_4 : decode cX11_has 4 = .ok (.iload_n 1, 1) := by decide +kernel
theorem dX11_has_5 : decode cX11_has 5 = .ok (.invokevirtual 41, 3) := by decide +kernel
theorem dX11_has_8 : decode cX11_has 8 = .ok (.astore_n 3, 1) := by decide +kernel
theorem dX11_has_9 : decode cX11_has 9 = .ok (.aload_n 3, 1) := by decide +kernel
theorem dX11_has_10 : decode cX11_has 10 = .ok (.ifnull 10, 3) := by decide +kernel
theorem dX11_has_13 : decode cX11_has 13 = .ok (.iload_n 2, 1) := by decide +kernel
theorem dX11_has_14 : decode cX11_has 14 = .ok (.invokestatic 100, 3) := by decide +kernel
theorem dX11_has_17 : decode cX11_has 17 = .ok (.ifCond .ne 13, 3) := by decide +kernel
theorem dX11_has_20 : decode cX11_has 20 = .ok (.new 45, 3) := by decide +kernel
theorem dX11_has_23 : decode cX11_has 23 = .ok (.dup, 1) := by decide +kernel
theorem dX11_has_24 : decode cX11_has 24 = .ok (.ldc 103, 2) := by decide +kernel
theorem dX11_has_26 : decode cX11_has 26 = .ok (.invokespecial 49, 3) := by decide +kernel
theorem dX11_has_29 : decode cX11_has 29 = .ok (.athrow, 1) := by decide +kernel
theorem dX11_has_30 : decode cX11_has 30 = .ok (.aload_n 0, 1) := by decide +kernel
theorem dX11_has_31 : decode cX11_has 31 = .ok (.getfield 10, 3) := by decide +kernel
theorem dX11_has_34 : decode cX11_has 34 = .ok (.aload_n 3, 1) := by decide +kernel
theorem dX11_has_35 : decode cX11_has 35 = .ok (.iload_n 2, 1) := by decide +kernel
theorem dX11_has_36 : decode cX11_has 36 = .ok (.invokevirtual 135, 3) := by decide +kernel
theorem dX11_has_39 : decode cX11_has 39 = .ok (.ireturn, 1) := by decide +kernel
set_option maxRecDepth 20000 in
theorem ggX11_delete_X8_find : GoodIn wsX11_delete wsX8_find := goodIn_r _ [8, 9, 10, 69, 70] (by decide +kernel) (by decide +kernel)
set_option maxRecDepth 20000 in
theorem gX11_delete_X8_find : GoodIn wsX11_delete (wsV RX11 41 RX8 yX8_find wsX8_find) := goodIn_app (goodIn_of _ (by decide +kernel)) ggX11_delete_X8_find
set_option maxRecDepth 20000 in
theorem ggX11_delete_X11_isKey : GoodIn wsX11_delete wsX11_isKey := goodIn_r _ [14] (by decide +kernel) (by decide +kernel)
set_option maxRecDepth 20000 in
theorem gX11_delete_X11_isKey : GoodIn wsX11_delete (va_wsS RX11 100 yX11_isKey wsX11_isKey) := goodIn_app (goodIn_of _ (by decide +kernel)) ggX11_delete_X11_isKey
set_option maxRecDepth 20000 in
theorem ggX11_delete_X8_deleteFrom : GoodIn wsX11_delete wsX8_deleteFrom := goodIn_ca (goodIn_r _ [18, 19, 20, 21, 22, 23, 24, 25, 26, 27, 28, 29, 30, 31, 32, 33, 34, 35, 36, 37, 38, 39, 40, 41, 42, 43, 44, 45, 46, 47, 48, 49, 50, 51, 52, 53, 54, 55, 7, 56, 57, 58, 59, 60, 61, 62, 63, 64, 71, 72, 73, 74, 75, 76, 77, 78, 79] (by decide +kernel) (by decide +kernel)) (goodIn_sub (fun _ h => List.mem_cons_of_mem _ (List.mem_append_right _ h)) (by decide +kernel))
set_option maxRecDepth 20000 in
theorem gX11_delete_X8_deleteFrom : GoodIn wsX11_delete (wsV RX11 139 RX8 yX8_deleteFrom wsX8_deleteFrom) := goodIn_app (goodIn_of _ (by decide +kernel)) ggX11_delete_X8_deleteFrom
theorem dX11_delete_0 : decode cX11_delete 0 = .ok (.aload_n 0, 1) := by decide +kernel
theorem dX11_delete_1 : decode cX11_delete 1 = .ok (.getfield 10, 3) := by decide +kernel
theorem dX11_delete_4 : decode cX11_delete 4 = .ok (.iload_n 1, 1) := by decide +kernel
theorem dX11_delete_5 : decode cX11_delete 5 = .ok (.invokevirtual 41, 3) := by decide +kernel
theorem dX11_delete_8 : decode cX11_delete 8 = .ok (.astore_n 3, 1) := by decide +kernel
theorem dX11_delete_9 : decode cX11_delete 9 = .ok (.aload_n 3, 1) := by decide +kernel
theorem dX11_delete_10 : decode cX11_delete 10 = .ok (.ifnull 10, 3) := by decide +kernel
theorem dX11_delete_13 : decode cX11_delete 13 = .ok (.iload_n 2, 1) := by decide +kernel
theorem dX11_delete_14 : decode cX11_delete 14 = .ok (.invokestatic 100, 3) := by decide +kernel
theorem dX11_delete_17 : decode cX11_delete 17 = .ok (.ifCond .ne 13, 3) := by decide +kernel
theorem dX11_delete_20 : decode cX11_delete 20 = .ok (.new 45, 3) := by decide +kernel
theorem dX11_delete_23 : decode cX11_delete 23 = .ok (.dup, 1) := by decide +kernel
theorem dX11_delete_24 : decode cX11_delete 24 = .ok (.ldc 103, 2) := by decide +kernel
theorem dX11_delete_26 : decode cX11_delete 26 = .ok (.invokespecial 49, 3) := by decide +kernel
theorem dX11_delete_29 : decode cX11_delete 29 = .ok (.athrow, 1) := by decide +kernel
theorem dX11_delete_30 : decode cX11_delete 30 = .ok (.aload_n 0, 1) := by decide +kernel
theorem dX11_delete_31 : decode cX11_delete 31 = .ok (.getfield 10, 3) := by decide +kernel
theorem dX11_delete_34 : decode cX11_delete 34 = .ok (.aload_n 3, 1) := by decide +kernel
theorem dX11_delete_35 : decode cX11_delete 35 = .ok (.iload_n 2, 1) := by decide +kernel
theorem dX11_delete_36 : decode cX11_delete 36 = .ok (.invokevirtual 139, 3) := by decide +kernel
theorem dX11_delete_39 : decode cX11_delete 39 = .ok (.ireturn, 1) := by decide +kernel
set_option maxRecDepth 20000 in
theorem ggX11_closeObject_X8_find : GoodIn wsX11_closeObject wsX8_find := goodIn_r _ [9, 10, 11, 37, 38] (by decide +kernel) (by decide +kernel)
set_option maxRecDepth 20000 in
theorem gX11_closeObject_X8_find : GoodIn wsX11_closeObject (wsV RX11 41 RX8 yX8_find wsX8_find) := goodIn_app (goodIn_of _ (by decide +kernel)) ggX11_closeObject_X8_find
set_option maxRecDepth 20000 in
theorem ggX11_closeObject_X8_plainBehind : GoodIn wsX11_closeObject wsX8_plainBehind := goodIn_r _ [15, 16, 17, 18, 19, 20, 21, 22, 23, 28, 29, 30, 31, 32, 33, 34, 35, 36] (by decide +kernel) (by decide +kernel)
set_option maxRecDepth 20000 in
theorem gX11_closeObject_X8_plainBehind : GoodIn wsX11_closeObject (wsV RX11 110 RX8 yX8_plainBehind wsX8_plainBehind) := goodIn_app (goodIn_of _ (by decide +kernel)) ggX11_closeObject_X8_plainBehind
theorem dX11_closeObject_0 : decode cX11_closeObject 0 = .ok (.aload_n 0, 1) := by decide +kernel
theorem dX11_closeObject_1 : decode cX11_closeObject 1 = .ok (.getfield 10, 3) := by decide +kernel
theorem dX11_closeObject_4 : decode cX11_closeObject 4 = .ok (.iload_n 1, 1) := by decide +kernel
theorem dX11_closeObject_5 : decode cX11_closeObject 5 = .ok (.invokevirtual 41, 3) := by decide +kernel
theorem dX11_closeObject_8 : decode cX11_closeObject 8 = .ok (.astore_n 2, 1) := by decide +kernel
theorem dX11_closeObject_9 : decode cX11_closeObject 9 = .ok (.aload_n 2, 1) := by decide +kernel
theorem dX11_closeObject_10 : decode cX11_closeObject 10 = .ok (.ifnonnull 13, 3) := by decide +kernel
theorem dX11_closeObject_13 : decode cX11_closeObject 13 = .ok (.new 45, 3) := by decide +kernel
theorem dX11_closeObject_16 : decode cX11_closeObject 16 = .ok (.dup, 1) := by decide +kernel
theorem dX11_closeObject_17 : decode cX11_closeObject 17 = .ok (.ldc 47, 2) := by decide +kernel
theorem dX11_closeObject_19 : decode cX11_closeObject 19 = .ok (.invokespecial 49, 3) := by decide +kernel
theorem dX11_closeObject_22 : decode cX11_closeObject 22 = .ok (.athrow, 1) := by decide +kernel
theorem dX11_closeObject_23 : decode cX11_closeObject 23 = .ok (.aload_n 0, 1) := by decide +kernel
theorem dX11_closeObject_24 : decode cX11_closeObject 24 = .ok (.getfield 10, 3) := by decide +kernel
theorem dX11_closeObject_27 : decode cX11_closeObject 27 = .ok (.aload_n 2, 1) := by decide +kernel
theorem dX11_closeObject_28 : decode cX11_closeObject 28 = .ok (.invokevirtual 110, 3) := by decide +kernel
theorem dX11_closeObject_31 : decode cX11_closeObject 31 = .ok (.astore_n 3, 1) := by decide +kernel
theorem dX11_closeObject_32 : decode cX11_closeObject 32 = .ok (.aload_n 3, 1) := by decide +kernel
theorem dX11_closeObject_33 : decode cX11_closeObject 33 = .ok (.ifnonnull 6, 3) := by decide +kernel
theorem dX11_closeObject_36 : decode cX11_closeObject 36 = .ok (.bipush 84, 2) := by decide +kernel
theorem dX11_closeObject_38 : decode cX11_closeObject 38 = .ok (.ireturn, 1) := by decide +kernel
theorem dX11_closeObject_39 : decode cX11_closeObject 39 = .ok (.aload_n 3, 1) := by decide +kernel
theorem dX11_closeObject_40 : decode cX11_closeObject 40 = .ok (.iconst 1, 1) := by decide +kernel
theorem dX11_closeObject_41 : decode cX11_closeObject 41 = .ok (.putfield 142, 3) := by decide +kernel
theorem dX11_closeObject_44 : decode cX11_closeObject 44 = .ok (.bipush 121, 2) := by decide +kernel
theorem dX11_closeObject_46 : decode cX11_closeObject 46 = .ok (.ireturn, 1) := by decide +kernel
set_option maxRecDepth 20000 in
theorem ggX11_setChain_X8_find : GoodIn wsX11_setChain wsX8_find := goodIn_r _ [8, 9, 10, 33, 34] (by decide +kernel) (by decide +kernel)
set_option maxRecDepth 20000 in
theorem gX11_setChain_X8_find : GoodIn wsX11_setChain (wsV RX11 41 RX8 yX8_find wsX8_find) := goodIn_app (goodIn_of _ (by decide +kernel)) ggX11_setChain_X8_find
set_option maxRecDepth 20000 in
theorem ggX11_setChain_X8_plainBehind : GoodIn wsX11_setChain wsX8_plainBehind := goodIn_r _ [14, 15, 16, 17, 18, 19, 20, 21, 22, 35, 36, 37, 38, 39, 40, 41, 42, 43] (by decide +kernel) (by decide +kernel)
set_option maxRecDepth 20000 in
theorem gX11_setChain_X8_plainBehind : GoodIn wsX11_setChain (wsV RX11 110 RX8 yX8_plainBehind wsX8_plainBehind) := goodIn_app (goodIn_of _ (by decide +kernel)) ggX11_setChain_X8_plainBehind
set_option maxRecDepth 20000 in
theorem ggX11_setChain_X8_chainTo : GoodIn wsX11_setChain wsX8_chainTo := goodIn_r _ [26, 27, 28, 17, 18, 19, 20, 21, 22, 35, 36, 37, 38, 39, 40, 41, 42, 43] (by decide +kernel) (by decide +kernel)
set_option maxRecDepth 20000 in
theorem gX11_setChain_X8_chainTo : GoodIn wsX11_setChain (wsV RX11 145 RX8 yX8_chainTo wsX8_chainTo) := goodIn_app (goodIn_of _ (by decide +kernel)) ggX11_setChain_X8_chainTo
theorem dX11_setChain_0 : decode cX11_setChain 0 = .ok (.aload_n 0, 1) := by decide +kernel
theorem dX11_setChain_1 : decode cX11_setChain 1 = .ok (.getfield 10, 3) := by decide +kernel
theorem dX11_setChain_4 : decode cX11_setChain 4 = .ok (.iload_n 1, 1) := by decide +kernel
theorem dX11_setChain_5 : decode cX11_setChain 5 = .ok (.invokevirtual 41, 3) := by decide +kernel
theorem dX11_setChain_8 : decode cX11_setChain 8 = .ok (.astore_n 3, 1) := by decide +kernel
theorem dX11_setChain_9 : decode cX11_setChain 9 = .ok (.aload_n 0, 1) := by decide +kernel
theorem dX11_setChain_10 : decode cX11_setChain 10 = .ok (.getfield 10, 3) := by decide +kernel
theorem dX11_setChain_13 : decode cX11_setChain 13 = .ok (.iload_n 2, 1) := by decide +kernel
theorem dX11_setChain_14 : decode cX11_setChain 14 = .ok (.invokevirtual 41, 3) := by decide +kernel
theorem dX11_setChain_17 : decode cX11_setChain 17 = .ok (.astore 4, 2) := by decide +kernel
theorem dX11_setChain_19 : decode cX11_setChain 19 = .ok (.aload_n 3, 1) := by decide +kernel
theorem dX11_setChain_20 : decode cX11_setChain 20 = .ok (.ifnull 13, 3) := by decide +kernel
theorem dX11_setChain_23 : decode cX11_setChain 23 = .ok (.aload 4, 2) := by decide +kernel
theorem dX11_setChain_25 : decode cX11_setChain 25 = .ok (.ifnonnull 18, 3) := by decide +kernel
theorem dX11_setChain_28 : decode cX11_setChain 28 = .ok (.iload_n 2, 1) := by decide +kernel
theorem dX11_setChain_29 : decode cX11_setChain 29 = .ok (.iconst (-1), 1) := by decide +kernel
theorem dX11_setChain_30 : decode cX11_setChain 30 = .ok (.if_icmp .eq 13, 3) := by decide +kernel
theorem dX11_setChain_33 : decode cX11_setChain 33 = .ok (.new 45, 3) := by decide +kernel
theorem dX11_setChain_36 : decode cX11_setChain 36 = .ok (.dup, 1) := by decide +kernel
theorem dX11_setChain_37 : decode cX11_setChain 37 = .ok (.ldc 47, 2) := by decide +kernel
theorem dX11_setChain_39 : decode cX11_setChain 39 = .ok (.invokespecial 49, 3) := by decide +kernel
theorem dX11_setChain_42 : decode cX11_setChain 42 = .ok (.athrow, 1) := by decide +kernel
theorem dX11_setChain_43 : decode cX11_setChain 43 = .ok (.aload_n 0, 1) := by decide +kernel
theorem dX11_setChain_44 : decode cX11_setChain 44 = .ok (.getfield 10, 3) := by decide +kernel
theorem dX11_setChain_47 : decode cX11_setChain 47 = .ok (.aload_n 3, 1) := by decide +kernel
theorem dX11_setChain_48 : decode cX11_setChain 48 = .ok (.invokevirtual 110, 3) := by decide +kernel
theorem dX11_setChain_51 : decode cX11_setChain 51 = .ok (.astore 5, 2) := by decide +kernel
theorem dX11_setChain_53 : decode cX11_setChain 53 = .ok (.aload 5, 2) := by decide +kernel
theorem dX11_setChain_55 : decode cX11_setChain 55 = .ok (.ifnonnull 8, 3) := by decide +kernel
theorem dX11_setChain_58 : decode cX11_setChain 58 = .ok (.bipush 84, 2) := by decide +kernel
theorem dX11_setChain_60 : decode cX11_setChain 60 = .ok (.goto 14, 3) := by decide +kernel
theorem dX11_setChain_63 : decode cX11_setChain 63 = .ok (.aload_n 0, 1) := by decide +kernel
theorem dX11_setChain_64 : decode cX11_setChain 64 = .ok (.getfield 10, 3) := by decide +kernel
theorem dX11_setChain_67 : decode cX11_setChain 67 = .ok (.aload 5, 2) := by decide +kernel
theorem dX11_setChain_69 : decode cX11_setChain 69 = .ok (.aload 4, 2) := by decide +kernel
theorem dX11_setChain_71 : decode cX11_setChain 71 = .ok (.invokevirtual 145, 3) := by decide +kernel
theorem dX11_setChain_74 : decode cX11_setChain 74 = .ok (.ireturn, 1) := by decide +kernel
set_option maxRecDepth 20000 in
theorem ggX11_keys_X8_find : GoodIn wsX11_keys wsX8_find := goodIn_r _ [11, 12, 13, 39, 40] (by decide +kernel) (by decide +kernel)
set_option maxRecDepth 20000 in
theorem gX11_keys_X8_find : GoodIn wsX11_keys (wsV RX11 41 RX8 yX8_find wsX8_find) := goodIn_app (goodIn_of _ (by decide +kernel)) ggX11_keys_X8_find
set_option maxRecDepth 20000 in
theorem ggX11_keys_X8_plainBehind : GoodIn wsX11_keys wsX8_plainBehind := goodIn_r _ [17, 18, 19, 20, 21, 22, 23, 24, 25, 30, 31, 32, 33, 34, 35, 36, 37, 38] (by decide +kernel) (by decide +kernel)
set_option maxRecDepth 20000 in
theorem gX11_keys_X8_plainBehind : GoodIn wsX11_keys (wsV RX11 110 RX8 yX8_plainBehind wsX8_plainBehind) := goodIn_app (goodIn_of _ (by decide +kernel)) ggX11_keys_X8_plainBehind
theorem dX11_keys_0 : decode cX11_keys 0 = .ok (.aload_n 0, 1) := by decide +kernel
theorem dX11_keys_1 : decode cX11_keys 1 = .ok (.getfield 10, 3) := by decide +kernel
theorem dX11_keys_4 : decode cX11_keys 4 = .ok (.iload_n 1, 1) := by decide +kernel
theorem dX11_keys_5 : decode cX11_keys 5 = .ok (.invokevirtual 41, 3) := by decide +kernel
theorem dX11_keys_8 : decode cX11_keys 8 = .ok (.astore_n 2, 1) := by decide +kernel
theorem dX11_keys_9 : decode cX11_keys 9 = .ok (.aload_n 2, 1) := by decide +kernel
theorem dX11_keys_10 : decode cX11_keys 10 = .ok (.ifnonnull 13, 3) := by decide +kernel
theorem dX11_keys_13 : decode cX11_keys 13 = .ok (.new 45, 3) := by decide +kernel
theorem dX11_keys_16 : decode cX11_keys 16 = .ok (.dup, 1) := by decide +kernel
theorem dX11_keys_17 : decode cX11_keys 17 = .ok (.ldc 47, 2) := by decide +kernel
theorem dX11_keys_19 : decode cX11_keys 19 = .ok (.invokespecial 49, 3) := by decide +kernel
theorem dX11_keys_22 : decode cX11_keys 22 = .ok (.athrow, 1) := by decide +kernel
theorem dX11_keys_23 : decode cX11_keys 23 = .ok (.aload_n 0, 1) := by decide +kernel
theorem dX11_keys_24 : decode cX11_keys 24 = .ok (.getfield 10, 3) := by decide +kernel
theorem dX11_keys_27 : decode cX11_keys 27 = .ok (.aload_n 2, 1) := by decide +kernel
theorem dX11_keys_28 : decode cX11_keys 28 = .ok (.invokevirtual 110, 3) := by decide +kernel
theorem dX11_keys_31 : decode cX11_keys 31 = .ok (.astore_n 3, 1) := by decide +kernel
theorem dX11_keys_32 : decode cX11_keys 32 = .ok (.aload_n 3, 1) := by decide +kernel
theorem dX11_keys_33 : decode cX11_keys 33 = .ok (.ifnonnull 13, 3) := by decide +kernel
theorem dX11_keys_36 : decode cX11_keys 36 = .ok (.new 130, 3) := by decide +kernel
theorem dX11_keys_39 : decode cX11_keys 39 = .ok (.dup, 1) := by decide +kernel
theorem dX11_keys_40 : decode cX11_keys 40 = .ok (.ldc 132, 2) := by decide +kernel
theorem dX11_keys_42 : decode cX11_keys 42 = .ok (.invokespecial 134, 3) := by decide +kernel
theorem dX11_keys_45 : decode cX11_keys 45 = .ok (.athrow, 1) := by decide +kernel
theorem dX11_keys_46 : decode cX11_keys 46 = .ok (.aload_n 3, 1) := by decide +kernel
theorem dX11_keys_47 : decode cX11_keys 47 = .ok (.getfield 149, 3) := by decide +kernel
theorem dX11_keys_50 : decode cX11_keys 50 = .ok (.ireturn, 1) := by decide +kernel
set_option maxRecDepth 20000 in
theorem ggX11_keyAt_X8_find : GoodIn wsX11_keyAt wsX8_find := goodIn_r _ [12, 13, 14, 37, 38] (by decide +kernel) (by decide +kernel)
set_option maxRecDepth 20000 in
theorem gX11_keyAt_X8_find : GoodIn wsX11_keyAt (wsV RX11 41 RX8 yX8_find wsX8_find) := goodIn_app (goodIn_of _ (by decide +kernel)) ggX11_keyAt_X8_find
set_option maxRecDepth 20000 in
theorem ggX11_keyAt_X8_plainBehind : GoodIn wsX11_keyAt wsX8_plainBehind := goodIn_r _ [18, 19, 20, 21, 22, 23, 24, 25, 26, 39, 40, 41, 42, 43, 44, 45, 46, 47] (by decide +kernel) (by decide +kernel)
set_option maxRecDepth 20000 in
theorem gX11_keyAt_X8_plainBehind : GoodIn wsX11_keyAt (wsV RX11 110 RX8 yX8_plainBehind wsX8_plainBehind) := goodIn_app (goodIn_of _ (by decide +kernel)) ggX11_keyAt_X8_plainBehind
set_option maxRecDepth 20000 in
theorem ggX11_keyAt_X7_listedAt : GoodIn wsX11_keyAt wsX7_listedAt := goodIn_ca (goodIn_r _ [30, 31, 32, 39, 40, 41, 42, 43, 44, 45, 46, 47] (by decide +kernel) (by decide +kernel)) (goodIn_sub (fun _ h => List.mem_cons_of_mem _ (List.mem_append_right _ h)) (by decide +kernel))
set_option maxRecDepth 20000 in
theorem gX11_keyAt_X7_listedAt : GoodIn wsX11_keyAt (wsV RX11 153 RX7 yX7_listedAt wsX7_listedAt) := goodIn_app (goodIn_of _ (by decide +kernel)) ggX11_keyAt_X7_listedAt
theorem dX11_keyAt_0 : decode cX11_keyAt 0 = .ok (.aload_n 0, 1) := by decide +kernel
theorem dX11_keyAt_1 : decode cX11_keyAt 1 = .ok (.getfield 10, 3) := by decide +kernel
theorem dX11_keyAt_4 : decode cX11_keyAt 4 = .ok (.iload_n 1, 1) := by decide +kernel
theorem dX11_keyAt_5 : decode cX11_keyAt 5 = .ok (.invokevirtual 41, 3) := by decide +kernel
theorem dX11_keyAt_8 : decode cX11_keyAt 8 = .ok (.astore_n 3, 1) := by decide +kernel
theorem dX11_keyAt_9 : decode cX11_keyAt 9 = .ok (.aload_n 3, 1) := by decide +kernel
theorem dX11_keyAt_10 : decode cX11_keyAt 10 = .ok (.ifnonnull 13, 3) := by decide +kernel
theorem dX11_keyAt_13 : decode cX11_keyAt 13 = .ok (.new 45, 3) := by decide +kernel
theorem dX11_keyAt_16 : decode cX11_keyAt 16 = .ok (.dup, 1) := by decide +kernel
theorem dX11_keyAt_17 : decode cX11_keyAt 17 = .ok (.ldc 47, 2) := by decide +kernel
theorem dX11_keyAt_19 : decode cX11_keyAt 19 = .ok (.invokespecial 49, 3) := by decide +kernel
theorem dX11_keyAt_22 : decode cX11_keyAt 22 = .ok (.athrow, 1) := by decide +kernel
theorem dX11_keyAt_23 : decode cX11_keyAt 23 = .ok (.aload_n 0, 1) := by decide +kernel
theorem dX11_keyAt_24 : decode cX11_keyAt 24 = .ok (.getfield 10, 3) := by decide +kernel
theorem dX11_keyAt_27 : decode cX11_keyAt 27 = .ok (.aload_n 3, 1) := by decide +kernel
theorem dX11_keyAt_28 : decode cX11_keyAt 28 = .ok (.invokevirtual 110, 3) := by decide +kernel
theorem dX11_keyAt_31 : decode cX11_keyAt 31 = .ok (.astore 4, 2) := by decide +kernel
theorem dX11_keyAt_33 : decode cX11_keyAt 33 = .ok (.aload 4, 2) := by decide +kernel
theorem dX11_keyAt_35 : decode cX11_keyAt 35 = .ok (.ifnonnull 13, 3) := by decide +kernel
theorem dX11_keyAt_38 : decode cX11_keyAt 38 = .ok (.new 130, 3) := by decide +kernel
theorem dX11_keyAt_41 : decode cX11_keyAt 41 = .ok (.dup, 1) := by decide +kernel
theorem dX11_keyAt_42 : decode cX11_keyAt 42 = .ok (.ldc 132, 2) := by decide +kernel
theorem dX11_keyAt_44 : decode cX11_keyAt 44 = .ok (.invokespecial 134, 3) := by decide +kernel
theorem dX11_keyAt_47 : decode cX11_keyAt 47 = .ok (.athrow, 1) := by decide +kernel
theorem dX11_keyAt_48 : decode cX11_keyAt 48 = .ok (.aload 4, 2) := by decide +kernel
theorem dX11_keyAt_50 : decode cX11_keyAt 50 = .ok (.iload_n 2, 1) := by decide +kernel
theorem dX11_keyAt_51 : decode cX11_keyAt 51 = .ok (.invokevirtual 153, 3) := by decide +kernel
theorem dX11_keyAt_54 : decode cX11_keyAt 54 = .ok (.istore 5, 2) := by decide +kernel
theorem dX11_keyAt_56 : decode cX11_keyAt 56 = .ok (.iload 5, 2) := by decide +kernel
theorem dX11_keyAt_58 : decode cX11_keyAt 58 = .ok (.iconst (-1), 1) := by decide +kernel
theorem dX11_keyAt_59 : decode cX11_keyAt 59 = .ok (.if_icmp .ne 13, 3) := by decide +kernel
theorem dX11_keyAt_62 : decode cX11_keyAt 62 = .ok (.new 157, 3) := by decide +kernel
theorem dX11_keyAt_65 : decode cX11_keyAt 65 = .ok (.dup, 1) := by decide +kernel
theorem dX11_keyAt_66 : decode cX11_keyAt 66 = .ok (.ldc 159, 2) := by decide +kernel
theorem dX11_keyAt_68 : decode cX11_keyAt 68 = .ok (.invokespecial 161, 3) := by decide +kernel
theorem dX11_keyAt_71 : decode cX11_keyAt 71 = .ok (.athrow, 1) := by decide +kernel
theorem dX11_keyAt_72 : decode cX11_keyAt 72 = .ok (.iload 5, 2) := by decide +kernel
theorem dX11_keyAt_74 : decode cX11_keyAt 74 = .ok (.ireturn, 1) := by decide +kernel
set_option maxRecDepth 20000 in
theorem ggX11_rights_X8_find : GoodIn wsX11_rights wsX8_find := goodIn_r _ [12, 13, 14, 40, 41] (by decide +kernel) (by decide +kernel)
set_option maxRecDepth 20000 in
theorem gX11_rights_X8_find : GoodIn wsX11_rights (wsV RX11 41 RX8 yX8_find wsX8_find) := goodIn_app (goodIn_of _ (by decide +kernel)) ggX11_rights_X8_find
set_option maxRecDepth 20000 in
theorem ggX11_rights_X11_isKey : GoodIn wsX11_rights wsX11_isKey := goodIn_r _ [18] (by decide +kernel) (by decide +kernel)
set_option maxRecDepth 20000 in
theorem gX11_rights_X11_isKey : GoodIn wsX11_rights (va_wsS RX11 100 yX11_isKey wsX11_isKey) := goodIn_app (goodIn_of _ (by decide +kernel)) ggX11_rights_X11_isKey
set_option maxRecDepth 20000 in
theorem ggX11_rights_X8_plainBehind : GoodIn wsX11_rights wsX8_plainBehind := goodIn_r _ [22, 23, 24, 25, 26, 27, 28, 29, 30, 42, 43, 44, 45, 46, 47, 48, 49, 50] (by decide +kernel) (by decide +kernel)
set_option maxRecDepth 20000 in
theorem gX11_rights_X8_plainBehind : GoodIn wsX11_rights (wsV RX11 110 RX8 yX8_plainBehind wsX8_plainBehind) := goodIn_app (goodIn_of _ (by decide +kernel)) ggX11_rights_X8_plainBehind
set_option maxRecDepth 20000 in
theorem ggX11_rights_X7_rightsOf : GoodIn wsX11_rights wsX7_rightsOf := goodIn_ca (goodIn_r _ [34, 35, 42, 43, 44, 45, 46, 47, 48, 49, 50] (by decide +kernel) (by decide +kernel)) (goodIn_sub (fun _ h => List.mem_cons_of_mem _ (List.mem_append_right _ h)) (by decide +kernel))
set_option maxRecDepth 20000 in
theorem gX11_rights_X7_rightsOf : GoodIn wsX11_rights (wsV RX11 162 RX7 yX7_rightsOf wsX7_rightsOf) := goodIn_app (goodIn_of _ (by decide +kernel)) ggX11_rights_X7_rightsOf
theorem dX11_rights_0 : decode cX11_rights 0 = .ok (.aload_n 0, 1) := by decide +kernel
theorem dX11_rights_1 : decode cX11_rights 1 = .ok (.getfield 10, 3) := by decide +kernel
theorem dX11_rights_4 : decode cX11_rights 4 = .ok (.iload_n 1, 1) := by decide +kernel
theorem dX11_rights_5 : decode cX11_rights 5 = .ok (.invokevirtual 41, 3) := by decide +kernel
theorem dX11_rights_8 : decode cX11_rights 8 = .ok (.astore_n 3, 1) := by decide +kernel
theorem dX11_rights_9 : decode cX11_rights 9 = .ok (.aload_n 3, 1) := by decide +kernel
theorem dX11_rights_10 : decode cX11_rights 10 = .ok (.ifnull 10, 3) := by decide +kernel
theorem dX11_rights_13 : decode cX11_rights 13 = .ok (.iload_n 2, 1) := by decide +kernel
theorem dX11_rights_14 : decode cX11_rights 14 = .ok (.invokestatic 100, 3) := by decide +kernel
theorem dX11_rights_17 : decode cX11_rights 17 = .ok (.ifCond .ne 13, 3) := by decide +kernel
theorem dX11_rights_20 : decode cX11_rights 20 = .ok (.new 45, 3) := by decide +kernel
theorem dX11_rights_23 : decode cX11_rights 23 = .ok (.dup, 1) := by decide +kernel
theorem dX11_rights_24 : decode cX11_rights 24 = .ok (.ldc 103, 2) := by decide +kernel
theorem dX11_rights_26 : decode cX11_rights 26 = .ok (.invokespecial 49, 3) := by decide +kernel
theorem dX11_rights_29 : decode cX11_rights 29 = .ok (.athrow, 1) := by decide +kernel
theorem dX11_rights_30 : decode cX11_rights 30 = .ok (.aload_n 0, 1) := by decide +kernel
theorem dX11_rights_31 : decode cX11_rights 31 = .ok (.getfield 10, 3) := by decide +kernel
theorem dX11_rights_34 : decode cX11_rights 34 = .ok (.aload_n 3, 1) := by decide +kernel
theorem dX11_rights_35 : decode cX11_rights 35 = .ok (.invokevirtual 110, 3) := by decide +kernel
theorem dX11_rights_38 : decode cX11_rights 38 = .ok (.astore 4, 2) := by decide +kernel
theorem dX11_rights_40 : decode cX11_rights 40 = .ok (.aload 4, 2) := by decide +kernel
theorem dX11_rights_42 : decode cX11_rights 42 = .ok (.ifnonnull 13, 3) := by decide +kernel
theorem dX11_rights_45 : decode cX11_rights 45 = .ok (.new 130, 3) := by decide +kernel
theorem dX11_rights_48 : decode cX11_rights 48 = .ok (.dup, 1) := by decide +kernel
theorem dX11_rights_49 : decode cX11_rights 49 = .ok (.ldc 132, 2) := by decide +kernel
theorem dX11_rights_51 : decode cX11_rights 51 = .ok (.invokespecial 134, 3) := by decide +kernel
theorem dX11_rights_54 : decode cX11_rights 54 = .ok (.athrow, 1) := by decide +kernel
theorem dX11_rights_55 : decode cX11_rights 55 = .ok (.aload 4, 2) := by decide +kernel
theorem dX11_rights_57 : decode cX11_rights 57 = .ok (.iload_n 2, 1) := by decide +kernel
theorem dX11_rights_58 : decode cX11_rights 58 = .ok (.invokevirtual 162, 3) := by decide +kernel
theorem dX11_rights_61 : decode cX11_rights 61 = .ok (.istore 5, 2) := by decide +kernel
theorem dX11_rights_63 : decode cX11_rights 63 = .ok (.iload 5, 2) := by decide +kernel
theorem dX11_rights_65 : decode cX11_rights 65 = .ok (.iconst (-1), 1) := by decide +kernel
theorem dX11_rights_66 : decode cX11_rights 66 = .ok (.if_icmp .ne 13, 3) := by decide +kernel
theorem dX11_rights_69 : decode cX11_rights 69 = .ok (.new 157, 3) := by decide +kernel
theorem dX11_rights_72 : decode cX11_rights 72 = .ok (.dup, 1) := by decide +kernel
theorem dX11_rights_73 : decode cX11_rights 73 = .ok (.ldc 165, 2) := by decide +kernel
theorem dX11_rights_75 : decode cX11_rights 75 = .ok (.invokespecial 161, 3) := by decide +kernel
theorem dX11_rights_78 : decode cX11_rights 78 = .ok (.athrow, 1) := by decide +kernel
theorem dX11_rights_79 : decode cX11_rights 79 = .ok (.iload 5, 2) := by decide +kernel
theorem dX11_rights_81 : decode cX11_rights 81 = .ok (.ireturn, 1) := by decide +kernel
set_option maxRecDepth 20000 in
theorem ggX11_isSound_X5_isSettledClean : GoodIn wsX11_isSound wsX5_isSettledClean := goodIn_r _ [8, 9, 10, 11, 12, 13, 14, 7, 15, 16, 63, 64, 65, 66, 67, 68, 69, 70] (by decide +kernel) (by decide +kernel)
set_option maxRecDepth 20000 in
theorem gX11_isSound_X5_isSettledClean : GoodIn wsX11_isSound (wsV RX11 281 RX5 yX5_isSettledClean wsX5_isSettledClean) := goodIn_app (goodIn_of _ (by decide +kernel)) ggX11_isSound_X5_isSettledClean
set_option maxRecDepth 20000 in
theorem ggX11_isSound_X2_hasJob : GoodIn wsX11_isSound wsX2_hasJob := goodIn_r _ [21, 22, 71, 72, 73] (by decide +kernel) (by decide +kernel)
set_option maxRecDepth 20000 in
theorem gX11_isSound_X2_hasJob : GoodIn wsX11_isSound (wsV RX11 284 RX2 yX2_hasJob wsX2_hasJob) := goodIn_app (goodIn_of _ (by decide +kernel)) ggX11_isSound_X2_hasJob
set_option maxRecDepth 20000 in
theorem ggX11_isSound_X8_areListed : GoodIn wsX11_isSound wsX8_areListed := goodIn_ca (goodIn_r _ [27, 28, 29, 30, 31, 26, 32, 33, 34, 35, 36, 37, 38, 39, 40, 41, 42, 43, 44, 45, 46, 47, 48, 49, 50, 51, 52, 53, 54, 55, 56, 57, 58, 74, 75, 76, 77, 78, 79, 80, 81, 82, 83, 84] (by decide +kernel) (by decide +kernel)) (goodIn_sub (fun _ h => List.mem_cons_of_mem _ (List.mem_append_right _ h)) (by decide +kernel))
set_option maxRecDepth 20000 in
theorem gX11_isSound_X8_areListed : GoodIn wsX11_isSound (wsV RX11 287 RX8 yX8_areListed wsX8_areListed) := goodIn_app (goodIn_of _ (by decide +kernel)) ggX11_isSound_X8_areListed
theorem dX11_isSound_0 : decode cX11_isSound 0 = .ok (.aload_n 0, 1) := by decide +kernel
theorem dX11_isSound_1 : decode cX11_isSound 1 = .ok (.getfield 28, 3) := by decide +kernel
theorem dX11_isSound_4 : decode cX11_isSound 4 = .ok (.invokevirtual 281, 3) := by decide +kernel
theorem dX11_isSound_7 : decode cX11_isSound 7 = .ok (.ifCond .eq 27, 3) := by decide +kernel
theorem dX11_isSound_10 : decode cX11_isSound 10 = .ok (.aload_n 0, 1) := by decide +kernel
theorem dX11_isSound_11 : decode cX11_isSound 11 = .ok (.getfield 19, 3) := by decide +kernel
theorem dX11_isSound_14 : decode cX11_isSound 14 = .ok (.invokevirtual 284, 3) := by decide +kernel
theorem dX11_isSound_17 : decode cX11_isSound 17 = .ok (.ifCond .ne 17, 3) := by decide +kernel
theorem dX11_isSound_20 : decode cX11_isSound 20 = .ok (.aload_n 0, 1) := by decide +kernel
theorem dX11_isSound_21 : decode cX11_isSound 21 = .ok (.getfield 10, 3) := by decide +kernel
theorem dX11_isSound_24 : decode cX11_isSound 24 = .ok (.invokevirtual 287, 3) := by decide +kernel
theorem dX11_isSound_27 : decode cX11_isSound 27 = .ok (.ifCond .eq 7, 3) := by decide +kernel
theorem dX11_isSound_30 : decode cX11_isSound 30 = .ok (.iconst 1, 1) := by decide +kernel
theorem dX11_isSound_31 : decode cX11_isSound 31 = .ok (.goto 4, 3) := by decide +kernel
theorem dX11_isSound_34 : decode cX11_isSound 34 = .ok (.iconst 0, 1) := by decide +kernel
theorem dX11_isSound_35 : decode cX11_isSound 35 = .ok (.ireturn, 1) := by decide +kernel
theorem dX11_isKey_0 : decode cX11_isKey 0 = .ok (.iload_n 0, 1) := by decide +kernel
theorem dX11_isKey_1 : decode cX11_isKey 1 = .ok (.ifCond .lt 13, 3) := by decide +kernel
theorem dX11_isKey_4 : decode cX11_isKey 4 = .ok (.iload_n 0, 1) := by decide +kernel
theorem dX11_isKey_5 : decode cX11_isKey 5 = .ok (.bipush 20, 2) := by decide +kernel
theorem dX11_isKey_7 : decode cX11_isKey 7 = .ok (.if_icmp .ge 7, 3) := by decide +kernel
theorem dX11_isKey_10 : decode cX11_isKey 10 = .ok (.iconst 1, 1) := by decide +kernel
theorem dX11_isKey_11 : decode cX11_isKey 11 = .ok (.goto 4, 3) := by decide +kernel
theorem dX11_isKey_14 : decode cX11_isKey 14 = .ok (.iconst 0, 1) := by decide +kernel
theorem dX11_isKey_15 : decode cX11_isKey 15 = .ok (.ireturn, 1) := by decide +kernel
theorem dX11_isValue_0 : decode cX11_isValue 0 = .ok (.iload_n 0, 1) := by decide +kernel
theorem dX11_isValue_1 : decode cX11_isValue 1 = .ok (.sipush (-9999), 3) := by decide +kernel
theorem dX11_isValue_4 : decode cX11_isValue 4 = .ok (.if_icmp .lt 14, 3) := by decide +kernel
theorem dX11_isValue_7 : decode cX11_isValue 7 = .ok (.iload_n 0, 1) := by decide +kernel
theorem dX11_isValue_8 : decode cX11_isValue 8 = .ok (.sipush 9999, 3) := by decide +kernel
theorem dX11_isValue_11 : decode cX11_isValue 11 = .ok (.if_icmp .gt 7, 3) := by decide +kernel
theorem dX11_isValue_14 : decode cX11_isValue 14 = .ok (.iconst 1, 1) := by decide +kernel
theorem dX11_isValue_15 : decode cX11_isValue 15 = .ok (.goto 4, 3) := by decide +kernel
theorem dX11_isValue_18 : decode cX11_isValue 18 = .ok (.iconst 0, 1) := by decide +kernel
theorem dX11_isValue_19 : decode cX11_isValue 19 = .ok (.ireturn, 1) := by decide +kernel
theorem dX11_kindOf_0 : decode cX11_kindOf 0 = .ok (.iload_n 0, 1) := by decide +kernel
theorem dX11_kindOf_1 : decode cX11_kindOf 1 = .ok (.lookupswitch 51 #[(100, 49), (103, 43), (104, 45), (115, 47)], 43) := by decide +kernel
theorem dX11_kindOf_44 : decode cX11_kindOf 44 = .ok (.iconst 0, 1) := by decide +kernel
theorem dX11_kindOf_45 : decode cX11_kindOf 45 = .ok (.ireturn, 1) := by decide +kernel
theorem dX11_kindOf_46 : decode cX11_kindOf 46 = .ok (.iconst 1, 1) := by decide +kernel
theorem dX11_kindOf_47 : decode cX11_kindOf 47 = .ok (.ireturn, 1) := by decide +kernel
theorem dX11_kindOf_48 : decode cX11_kindOf 48 = .ok (.iconst 2, 1) := by decide +kernel
theorem dX11_kindOf_49 : decode cX11_kindOf 49 = .ok (.ireturn, 1) := by decide +kernel
theorem dX11_kindOf_50 : decode cX11_kindOf 50 = .ok (.iconst 3, 1) := by decide +kernel
theorem dX11_kindOf_51 : decode cX11_kindOf 51 = .ok (.ireturn, 1) := by decide +kernel
theorem dX11_kindOf_52 : decode cX11_kindOf 52 = .ok (.iconst (-1), 1) := by decide +kernel
theorem dX11_kindOf_53 : decode cX11_kindOf 53 = .ok (.ireturn, 1) := by decide +kernel
set_option maxRecDepth 20000 in
theorem ggX11_isAnswer_X11_isValue : GoodIn wsX11_isAnswer wsX11_isValue := goodIn_r _ [4] (by decide +kernel) (by decide +kernel)
set_option maxRecDepth 20000 in
theorem gX11_isAnswer_X11_isValue : GoodIn wsX11_isAnswer (va_wsS RX11 105 yX11_isValue wsX11_isValue) := goodIn_app (goodIn_of _ (by decide +kernel)) ggX11_isAnswer_X11_isValue
theorem dX11_isAnswer_0 : decode cX11_isAnswer 0 = .ok (.iload_n 0, 1) := by decide +kernel
theorem dX11_isAnswer_1 : decode cX11_isAnswer 1 = .ok (.ifCond .ne 10, 3) := by decide +kernel
theorem dX11_isAnswer_4 : decode cX11_isAnswer 4 = .ok (.iload_n 1, 1) := by decide +kernel
theorem dX11_isAnswer_5 : decode cX11_isAnswer 5 = .ok (.invokestatic 105, 3) := by decide +kernel
theorem dX11_isAnswer_8 : decode cX11_isAnswer 8 = .ok (.goto 17, 3) := by decide +kernel
theorem dX11_isAnswer_11 : decode cX11_isAnswer 11 = .ok (.iload_n 1, 1) := by decide +kernel
theorem dX11_isAnswer_12 : decode cX11_isAnswer 12 = .ok (.ifCond .eq 8, 3) := by decide +kernel
theorem dX11_isAnswer_15 : decode cX11_isAnswer 15 = .ok (.iload_n 1, 1) := by decide +kernel
theorem dX11_isAnswer_16 : decode cX11_isAnswer 16 = .ok (.iconst 1, 1) := by decide +kernel
theorem dX11_isAnswer_17 : decode cX11_isAnswer 17 = .ok (.if_icmp .ne 7, 3) := by decide +kernel
theorem dX11_isAnswer_20 : decode cX11_isAnswer 20 = .ok (.iconst 1, 1) := by decide +kernel
theorem dX11_isAnswer_21 : decode cX11_isAnswer 21 = .ok (.goto 4, 3) := by decide +kernel
theorem dX11_isAnswer_24 : decode cX11_isAnswer 24 = .ok (.iconst 0, 1) := by decide +kernel
theorem dX11_isAnswer_25 : decode cX11_isAnswer 25 = .ok (.ireturn, 1) := by decide +kernel
theorem dJx00060_init_a7421_0 : decode cJx00060_init_a7421 0 = .ok (.aload_n 0, 1) := by decide +kernel
theorem dJx00060_init_a7421_1 : decode cJx00060_init_a7421 1 = .ok (.aload_n 1, 1) := by decide +kernel
theorem dJx00060_init_a7421_2 : decode cJx00060_init_a7421 2 = .ok (.invokespecial 7, 3) := by decide +kernel
theorem dJx00060_init_a7421_5 : decode cJx00060_init_a7421 5 = .ok (.return_, 1) := by decide +kernel
set_option maxRecDepth 20000 in
theorem ggJ0_charAt_5068e_J0_isLatin1_aae02 : GoodIn wsJ0_charAt_5068e wsJ0_isLatin1_aae02 := goodIn_r _ [6, 7, 8, 38, 39] (by decide +kernel) (by decide +kernel)
set_option maxRecDepth 20000 in
theorem gJ0_charAt_5068e_J0_isLatin1_aae02 : GoodIn wsJ0_charAt_5068e (wsV RJ0 492 RJ0 yJ0_isLatin1_aae02 wsJ0_isLatin1_aae02) := goodIn_app (goodIn_of _ (by decide +kernel)) ggJ0_charAt_5068e_J0_isLatin1_aae02
set_option maxRecDepth 20000 in
theorem ggJ0_charAt_5068e_J1_charAt_3b067 : GoodIn wsJ0_charAt_5068e wsJ1_charAt_3b067 := goodIn_r _ [12, 13, 14, 5, 15, 16, 17, 18, 19, 20] (by decide +kernel) (by decide +kernel)
set_option maxRecDepth 20000 in
theorem gJ0_charAt_5068e_J1_charAt_3b067 : GoodIn wsJ0_charAt_5068e (va_wsS RJ0 495 yJ1_charAt_3b067 wsJ1_charAt_3b067) := goodIn_app (goodIn_of _ (by decide +kernel)) ggJ0_charAt_5068e_J1_charAt_3b067
set_option maxRecDepth 20000 in
theorem ggJ0_charAt_5068e_J2_charAt_3b067 : GoodIn wsJ0_charAt_5068e wsJ2_charAt_3b067 := goodIn_r _ [24, 25, 26, 23, 27, 28, 29, 30, 31, 14, 5, 15, 16, 17, 18, 19, 20, 32, 33, 34, 35, 36, 37] (by decide +kernel) (by decide +kernel)
set_option maxRecDepth 20000 in
theorem gJ0_charAt_5068e_J2_charAt_3b067 : GoodIn wsJ0_charAt_5068e (va_wsS RJ0 498 yJ2_charAt_3b067 wsJ2_charAt_3b067) := goodIn_app (goodIn_of _ (by decide +kernel)) ggJ0_charAt_5068e_J2_charAt_3b067
theorem dJ0_charAt_5068e_0 : decode cJ0_charAt_5068e 0 = .ok (.aload_n 0, 1) := by decide +kernel
theorem dJ0_charAt_5068e_1 : decode cJ0_charAt_5068e 1 = .ok (.invokevirtual 492, 3) := by decide +kernel
theorem dJ0_charAt_5068e_4 : decode cJ0_charAt_5068e 4 = .ok (.ifCond .eq 12, 3) := by decide +kernel
theorem dJ0_charAt_5068e_7 : decode cJ0_charAt_5068e 7 = .ok (.aload_n 0, 1) := by decide +kernel
theorem dJ0_charAt_5068e_8 : decode cJ0_charAt_5068e 8 = .ok (.getfield 9, 3) := by decide +kernel
theorem dJ0_charAt_5068e_11 : decode cJ0_charAt_5068e 11 = .ok (.iload_n 1, 1) := by decide +kernel
theorem dJ0_charAt_5068e_12 : decode cJ0_charAt_5068e 12 = .ok (.invokestatic 495, 3) := by decide +kernel
theorem dJ0_charAt_5068e_15 : decode cJ0_charAt_5068e 15 = .ok (.ireturn, 1) := by decide +kernel
theorem dJ0_charAt_5068e_16 : decode cJ0_charAt_5068e 16 = .ok (.aload_n 0, 1) := by decide +kernel
theorem dJ0_charAt_5068e_17 : decode cJ0_charAt_5068e 17 = .ok (.getfield 9, 3) := by decide +kernel
theorem dJ0_charAt_5068e_20 : decode cJ0_charAt_5068e 20 = .ok (.iload_n 1, 1) := by decide +kernel
theorem dJ0_charAt_5068e_21 : decode cJ0_charAt_5068e 21 = .ok (.invokestatic 498, 3) := by decide +kernel
theorem dJ0_charAt_5068e_24 : decode cJ0_charAt_5068e 24 = .ok (.ireturn, 1) := by decide +kernel
theorem dJ0_isLatin1_aae02_0 : decode cJ0_isLatin1_aae02 0 = .ok (.getstatic 38, 3) := by decide +kernel
theorem dJ0_isLatin1_aae02_3 : decode cJ0_isLatin1_aae02 3 = .ok (.ifCond .eq 14, 3) := by decide +kernel
theorem dJ0_isLatin1_aae02_6 : decode cJ0_isLatin1_aae02 6 = .ok (.aload_n 0, 1) := by decide +kernel
theorem dJ0_isLatin1_aae02_7 : decode cJ0_isLatin1_aae02 7 = .ok (.getfield 15, 3) := by decide +kernel
theorem dJ0_isLatin1_aae02_10 : decode cJ0_isLatin1_aae02 10 = .ok (.ifCond .ne 7, 3) := by decide +kernel
theorem dJ0_isLatin1_aae02_13 : decode cJ0_isLatin1_aae02 13 = .ok (.iconst 1, 1) := by decide +kernel
theorem dJ0_isLatin1_aae02_14 : decode cJ0_isLatin1_aae02 14 = .ok (.goto 4, 3) := by decide +kernel
theorem dJ0_isLatin1_aae02_17 : decode cJ0_isLatin1_aae02 17 = .ok (.iconst 0, 1) := by decide +kernel
theorem dJ0_isLatin1_aae02_18 : decode cJ0_isLatin1_aae02 18 = .ok (.ireturn, 1) := by decide +kernel
set_option maxRecDepth 20000 in
theorem ggJ0_checkIndex_df160_J3_checkIndex_8e157 : GoodIn wsJ0_checkIndex_df160 wsJ3_checkIndex_8e157 := goodIn_r _ [5] (by decide +kernel) (by decide +kernel)
set_option maxRecDepth 20000 in
theorem gJ0_checkIndex_df160_J3_checkIndex_8e157 : GoodIn wsJ0_checkIndex_df160 (va_wsS RJ0 1059 yJ3_checkIndex_8e157 wsJ3_checkIndex_8e157) := goodIn_app (goodIn_of _ (by decide +kernel)) ggJ0_checkIndex_df160_J3_checkIndex_8e157
theorem dJ0_checkIndex_df160_0 : decode cJ0_checkIndex_df160 0 = .ok (.iload_n 0, 1) := by decide +kernel
theorem dJ0_checkIndex_df160_1 : decode cJ0_checkIndex_df160 1 = .ok (.iload_n 1, 1) := by decide +kernel
theorem dJ0_checkIndex_df160_2 : decode cJ0_checkIndex_df160 2 = .ok (.getstatic 1053, 3) := by decide +kernel
theorem dJ0_checkIndex_df160_5 : decode cJ0_checkIndex_df160 5 = .ok (.invokestatic 1059, 3) := by decide +kernel
theorem dJ0_checkIndex_df160_8 : decode cJ0_checkIndex_df160 8 = .ok (.pop, 1) := by decide +kernel
theorem dJ0_checkIndex_df160_9 : decode cJ0_checkIndex_df160 9 = .ok (.return_, 1) := by decide +kernel
set_option maxRecDepth 20000 in
theorem ggJ1_charAt_3b067_J0_checkIndex_df160 : GoodIn wsJ1_charAt_3b067 wsJ0_checkIndex_df160 := goodIn_r _ [4, 5, 6, 7, 8, 9] (by decide +kernel) (by decide +kernel)
set_option maxRecDepth 20000 in
theorem gJ1_charAt_3b067_J0_checkIndex_df160 : GoodIn wsJ1_charAt_3b067 (va_wsS RJ1 9 yJ0_checkIndex_df160 wsJ0_checkIndex_df160) := goodIn_app (goodIn_of _ (by decide +kernel)) ggJ1_charAt_3b067_J0_checkIndex_df160
theorem dJ1_charAt_3b067_0 : decode cJ1_charAt_3b067 0 = .ok (.iload_n 1, 1) := by decide +kernel
theorem dJ1_charAt_3b067_1 : decode cJ1_charAt_3b067 1 = .ok (.aload_n 0, 1) := by decide +kernel
theorem dJ1_charAt_3b067_2 : decode cJ1_charAt_3b067 2 = .ok (.arraylength, 1) := by decide +kernel
theorem dJ1_charAt_3b067_3 : decode cJ1_charAt_3b067 3 = .ok (.invokestatic 9, 3) := by decide +kernel
theorem dJ1_charAt_3b067_6 : decode cJ1_charAt_3b067 6 = .ok (.aload_n 0, 1) := by decide +kernel
theorem dJ1_charAt_3b067_7 : decode cJ1_charAt_3b067 7 = .ok (.iload_n 1, 1) := by decide +kernel
theorem dJ1_charAt_3b067_8 : decode cJ1_charAt_3b067 8 = .ok (.baload, 1) := by decide +kernel
theorem dJ1_charAt_3b067_9 : decode cJ1_charAt_3b067 9 = .ok (.sipush 255, 3) := by decide +kernel
theorem dJ1_charAt_3b067_12 : decode cJ1_charAt_3b067 12 = .ok (.iand, 1) := by decide +kernel
theorem dJ1_charAt_3b067_13 : decode cJ1_charAt_3b067 13 = .ok (.i2c, 1) := by decide +kernel
theorem dJ1_charAt_3b067_14 : decode cJ1_charAt_3b067 14 = .ok (.ireturn, 1) := by decide +kernel
set_option maxRecDepth 20000 in
theorem ggJ2_getChar_3b067_J2_length_9d52b : GoodIn wsJ2_getChar_3b067 wsJ2_length_9d52b := goodIn_r _ [7] (by decide +kernel) (by decide +kernel)
set_option maxRecDepth 20000 in
theorem gJ2_getChar_3b067_J2_length_9d52b : GoodIn wsJ2_getChar_3b067 (va_wsS RJ2 48 yJ2_length_9d52b wsJ2_length_9d52b) := goodIn_app (goodIn_of _ (by decide +kernel)) ggJ2_getChar_3b067_J2_length_9d52b
theorem dJ2_getChar_3b067_0 : decode cJ2_getChar_3b067 0 = .ok (.getstatic 44, 3) := by decide +kernel
theorem dJ2_getChar_3b067_3 : decode cJ2_getChar_3b067 3 = .ok (.ifCond .ne 25, 3) := by decide +kernel
theorem dJ2_getChar_3b067_6 : decode cJ2_getChar_3b067 6 = .ok (.iload_n 1, 1) := by decide +kernel
theorem dJ2_getChar_3b067_7 : decode cJ2_getChar_3b067 7 = .ok (.ifCond .lt 11, 3) := by decide +kernel
theorem dJ2_getChar_3b067_10 : decode cJ2_getChar_3b067 10 = .ok (.iload_n 1, 1) := by decide +kernel
theorem dJ2_getChar_3b067_11 : decode cJ2_getChar_3b067 11 = .ok (.aload_n 0, 1) := by decide +kernel
theorem dJ2_getChar_3b067_12 : decode cJ2_getChar_3b067 12 = .ok (.invokestatic 48, 3) := by decide +kernel
theorem dJ2_getChar_3b067_15 : decode cJ2_getChar_3b067 15 = .ok (.if_icmp .lt 13, 3) := by decide +kernel
theorem dJ2_getChar_3b067_18 : decode cJ2_getChar_3b067 18 = .ok (.new 52, 3) := by decide +kernel
theorem dJ2_getChar_3b067_21 : decode cJ2_getChar_3b067 21 = .ok (.dup, 1) := by decide +kernel
theorem dJ2_getChar_3b067_22 : decode cJ2_getChar_3b067 22 = .ok (.ldc 54, 2) := by decide +kernel
theorem dJ2_getChar_3b067_24 : decode cJ2_getChar_3b067 24 = .ok (.invokespecial 56, 3) := by decide +kernel
theorem dJ2_getChar_3b067_27 : decode cJ2_getChar_3b067 27 = .ok (.athrow, 1) := by decide +kernel
theorem dJ2_getChar_3b067_28 : decode cJ2_getChar_3b067 28 = .ok (.iload_n 1, 1) := by decide +kernel
theorem dJ2_getChar_3b067_29 : decode cJ2_getChar_3b067 29 = .ok (.iconst 1, 1) := by decide +kernel
theorem dJ2_getChar_3b067_30 : decode cJ2_getChar_3b067 30 = .ok (.ishl, 1) := by decide +kernel
theorem dJ2_getChar_3b067_31 : decode cJ2_getChar_3b067 31 = .ok (.istore_n 1, 1) := by decide +kernel
theorem dJ2_getChar_3b067_32 : decode cJ2_getChar_3b067 32 = .ok (.aload_n 0, 1) := by decide +kernel
theorem dJ2_getChar_3b067_33 : decode cJ2_getChar_3b067 33 = .ok (.iload_n 1, 1) := by decide +kernel
theorem dJ2_getChar_3b067_34 : decode cJ2_getChar_3b067 34 = .ok (.iinc 1 1, 3) := by decide +kernel
theorem dJ2_getChar_3b067_37 : decode cJ2_getChar_3b067 37 = .ok (.baload, 1) := by decide +kernel
theorem dJ2_getChar_3b067_38 : decode cJ2_getChar_3b067 38 = .ok (.sipush 255, 3) := by decide +kernel
theorem dJ2_getChar_3b067_41 : decode cJ2_getChar_3b067 41 = .ok (.iand, 1) := by decide +kernel
theorem dJ2_getChar_3b067_42 : decode cJ2_getChar_3b067 42 = .ok (.getstatic 59, 3) := by decide +kernel
theorem dJ2_getChar_3b067_45 : decode cJ2_getChar_3b067 45 = .ok (.ishl, 1) := by decide +kernel
theorem dJ2_getChar_3b067_46 : decode cJ2_getChar_3b067 46 = .ok (.aload_n 0, 1) := by decide +kernel
theorem dJ2_getChar_3b067_47 : decode cJ2_getChar_3b067 47 = .ok (.iload_n 1, 1) := by decide +kernel
theorem dJ2_getChar_3b067_48 : decode cJ2_getChar_3b067 48 = .ok (.baload, 1) := by decide +kernel
theorem dJ2_getChar_3b067_49 : decode cJ2_getChar_3b067 49 = .ok (.sipush 255, 3) := by decide +kernel
theorem dJ2_getChar_3b067_52 : decode cJ2_getChar_3b067 52 = .ok (.iand, 1) := by decide +kernel
theorem dJ2_getChar_3b067_53 : decode cJ2_getChar_3b067 53 = .ok (.getstatic 63, 3) := by decide +kernel
theorem dJ2_getChar_3b067_56 : decode cJ2_getChar_3b067 56 = .ok (.ishl, 1) := by decide +kernel
theorem dJ2_getChar_3b067_57 : decode cJ2_getChar_3b067 57 = .ok (.ior, 1) := by decide +kernel
theorem dJ2_getChar_3b067_58 : decode cJ2_getChar_3b067 58 = .ok (.i2c, 1) := by decide +kernel
theorem dJ2_getChar_3b067_59 : decode cJ2_getChar_3b067 59 = .ok (.ireturn, 1) := by decide +kernel
theorem dJ2_length_9d52b_0 : decode cJ2_length_9d52b 0 = .ok (.aload_n 0, 1) := by decide +kernel
theorem dJ2_length_9d52b_1 : decode cJ2_length_9d52b 1 = .ok (.arraylength, 1) := by decide +kernel
theorem dJ2_length_9d52b_2 : decode cJ2_length_9d52b 2 = .ok (.iconst 1, 1) := by decide +kernel
theorem dJ2_length_9d52b_3 : decode cJ2_length_9d52b 3 = .ok (.ishr, 1) := by decide +kernel
theorem dJ2_length_9d52b_4 : decode cJ2_length_9d52b 4 = .ok (.ireturn, 1) := by decide +kernel
set_option maxRecDepth 20000 in
theorem ggJ2_charAt_3b067_J2_checkIndex_2214a : GoodIn wsJ2_charAt_3b067 wsJ2_checkIndex_2214a := goodIn_r _ [4, 5, 6, 3, 7, 8, 9, 10, 11, 12, 13, 14, 15, 16] (by decide +kernel) (by decide +kernel)
set_option maxRecDepth 20000 in
theorem gJ2_charAt_3b067_J2_checkIndex_2214a : GoodIn wsJ2_charAt_3b067 (va_wsS RJ2 67 yJ2_checkIndex_2214a wsJ2_checkIndex_2214a) := goodIn_app (goodIn_of _ (by decide +kernel)) ggJ2_charAt_3b067_J2_checkIndex_2214a
set_option maxRecDepth 20000 in
theorem ggJ2_charAt_3b067_J2_getChar_3b067 : GoodIn wsJ2_charAt_3b067 wsJ2_getChar_3b067 := goodIn_r _ [19, 20, 21, 22, 5, 6, 3, 7] (by decide +kernel) (by decide +kernel)
set_option maxRecDepth 20000 in
theorem gJ2_charAt_3b067_J2_getChar_3b067 : GoodIn wsJ2_charAt_3b067 (va_wsS RJ2 71 yJ2_getChar_3b067 wsJ2_getChar_3b067) := goodIn_app (goodIn_of _ (by decide +kernel)) ggJ2_charAt_3b067_J2_getChar_3b067
theorem dJ2_charAt_3b067_0 : decode cJ2_charAt_3b067 0 = .ok (.iload_n 1, 1) := by decide +kernel
theorem dJ2_charAt_3b067_1 : decode cJ2_charAt_3b067 1 = .ok (.aload_n 0, 1) := by decide +kernel
theorem dJ2_charAt_3b067_2 : decode cJ2_charAt_3b067 2 = .ok (.invokestatic 67, 3) := by decide +kernel
theorem dJ2_charAt_3b067_5 : decode cJ2_charAt_3b067 5 = .ok (.aload_n 0, 1) := by decide +kernel
theorem dJ2_charAt_3b067_6 : decode cJ2_charAt_3b067 6 = .ok (.iload_n 1, 1) := by decide +kernel
theorem dJ2_charAt_3b067_7 : decode cJ2_charAt_3b067 7 = .ok (.invokestatic 71, 3) := by decide +kernel
theorem dJ2_charAt_3b067_10 : decode cJ2_charAt_3b067 10 = .ok (.ireturn, 1) := by decide +kernel
set_option maxRecDepth 20000 in
theorem ggJ2_checkIndex_2214a_J2_length_9d52b : GoodIn wsJ2_checkIndex_2214a wsJ2_length_9d52b := goodIn_r _ [4] (by decide +kernel) (by decide +kernel)
set_option maxRecDepth 20000 in
theorem gJ2_checkIndex_2214a_J2_length_9d52b : GoodIn wsJ2_checkIndex_2214a (va_wsS RJ2 48 yJ2_length_9d52b wsJ2_length_9d52b) := goodIn_app (goodIn_of _ (by decide +kernel)) ggJ2_checkIndex_2214a_J2_length_9d52b
set_option maxRecDepth 20000 in
theorem ggJ2_checkIndex_2214a_J0_checkIndex_df160 : GoodIn wsJ2_checkIndex_2214a wsJ0_checkIndex_df160 := goodIn_r _ [8, 9, 10, 11, 12, 13] (by decide +kernel) (by decide +kernel)
set_option maxRecDepth 20000 in
theorem gJ2_checkIndex_2214a_J0_checkIndex_df160 : GoodIn wsJ2_checkIndex_2214a (va_wsS RJ2 414 yJ0_checkIndex_df160 wsJ0_checkIndex_df160) := goodIn_app (goodIn_of _ (by decide +kernel)) ggJ2_checkIndex_2214a_J0_checkIndex_df160
theorem dJ2_checkIndex_2214a_0 : decode cJ2_checkIndex_2214a 0 = .ok (.iload_n 0, 1) := by decide +kernel
theorem dJ2_checkIndex_2214a_1 : decode cJ2_checkIndex_2214a 1 = .ok (.aload_n 1, 1) := by decide +kernel
theorem dJ2_checkIndex_2214a_2 : decode cJ2_checkIndex_2214a 2 = .ok (.invokestatic 48, 3) := by decide +kernel
theorem dJ2_checkIndex_2214a_5 : decode cJ2_checkIndex_2214a 5 = .ok (.invokestatic 414, 3) := by decide +kernel
theorem dJ2_checkIndex_2214a_8 : decode cJ2_checkIndex_2214a 8 = .ok (.return_, 1) := by decide +kernel
theorem dJ7_fill_53178_0 : decode cJ7_fill_53178 0 = .ok (.iconst 0, 1) := by decide +kernel
theorem dJ7_fill_53178_1 : decode cJ7_fill_53178 1 = .ok (.istore_n 2, 1) := by decide +kernel
theorem dJ7_fill_53178_2 : decode cJ7_fill_53178 2 = .ok (.aload_n 0, 1) := by decide +kernel
theorem dJ7_fill_53178_3 : decode cJ7_fill_53178 3 = .ok (.arraylength, 1) := by decide +kernel
theorem dJ7_fill_53178_4 : decode cJ7_fill_53178 4 = .ok (.istore_n 3, 1) := by decide +kernel
theorem dJ7_fill_53178_5 : decode cJ7_fill_53178 5 = .ok (.iload_n 2, 1) := by decide +kernel
theorem dJ7_fill_53178_6 : decode cJ7_fill_53178 6 = .ok (.iload_n 3, 1) := by decide +kernel
theorem dJ7_fill_53178_7 : decode cJ7_fill_53178 7 = .ok (.if_icmp .ge 13, 3) := by decide +kernel
theorem dJ7_fill_53178_10 : decode cJ7_fill_53178 10 = .ok (.aload_n 0, 1) := by decide +kernel
theorem dJ7_fill_53178_11 : decode cJ7_fill_53178 11 = .ok (.iload_n 2, 1) := by decide +kernel
theorem dJ7_fill_53178_12 : decode cJ7_fill_53178 12 = .ok (.iload_n 1, 1) := by decide +kernel
theorem dJ7_fill_53178_13 : decode cJ7_fill_53178 13 = .ok (.iastore, 1) := by decide +kernel
theorem dJ7_fill_53178_14 : decode cJ7_fill_53178 14 = .ok (.iinc 2 1, 3) := by decide +kernel
theorem dJ7_fill_53178_17 : decode cJ7_fill_53178 17 = .ok (.goto (-12), 3) := by decide +kernel
theorem dJ7_fill_53178_20 : decode cJ7_fill_53178 20 = .ok (.return_, 1) := by decide +kernel
theorem dJ3_checkIndex_8e157_0 : decode cJ3_checkIndex_8e157 0 = .ok (.iload_n 0, 1) := by decide +kernel
theorem dJ3_checkIndex_8e157_1 : decode cJ3_checkIndex_8e157 1 = .ok (.ifCond .lt 8, 3) := by decide +kernel
theorem dJ3_checkIndex_8e157_4 : decode cJ3_checkIndex_8e157 4 = .ok (.iload_n 0, 1) := by decide +kernel
theorem dJ3_checkIndex_8e157_5 : decode cJ3_checkIndex_8e157 5 = .ok (.iload_n 1, 1) := by decide +kernel
theorem dJ3_checkIndex_8e157_6 : decode cJ3_checkIndex_8e157 6 = .ok (.if_icmp .lt 10, 3) := by decide +kernel
theorem dJ3_checkIndex_8e157_9 : decode cJ3_checkIndex_8e157 9 = .ok (.aload_n 2, 1) := by decide +kernel
theorem dJ3_checkIndex_8e157_10 : decode cJ3_checkIndex_8e157 10 = .ok (.iload_n 0, 1) := by decide +kernel
theorem dJ3_checkIndex_8e157_11 : decode cJ3_checkIndex_8e157 11 = .ok (.iload_n 1, 1) := by decide +kernel
theorem dJ3_checkIndex_8e157_12 : decode cJ3_checkIndex_8e157 12 = .ok (.invokestatic 95, 3) := by decide +kernel
theorem dJ3_checkIndex_8e157_15 : decode cJ3_checkIndex_8e157 15 = .ok (.athrow, 1) := by decide +kernel
theorem dJ3_checkIndex_8e157_16 : decode cJ3_checkIndex_8e157 16 = .ok (.iload_n 0, 1) := by decide +kernel
theorem dJ3_checkIndex_8e157_17 : decode cJ3_checkIndex_8e157 17 = .ok (.ireturn, 1) := by decide +kernel
theorem dL_cell_0 : decode cL_cell 0 = .ok (.ldc 7, 2) := by decide +kernel
theorem dL_cell_2 : decode cL_cell 2 = .ok (.iload_n 1, 1) := by decide +kernel
theorem dL_cell_3 : decode cL_cell 3 = .ok (.aload_n 0, 1) := by decide +kernel
theorem dL_cell_4 : decode cL_cell 4 = .ok (.arraylength, 1) := by decide +kernel
theorem dL_cell_5 : decode cL_cell 5 = .ok (.if_icmp .ge 9, 3) := by decide +kernel
theorem dL_cell_8 : decode cL_cell 8 = .ok (.aload_n 0, 1) := by decide +kernel
theorem dL_cell_9 : decode cL_cell 9 = .ok (.iload_n 1, 1) := by decide +kernel
theorem dL_cell_10 : decode cL_cell 10 = .ok (.iaload, 1) := by decide +kernel
theorem dL_cell_11 : decode cL_cell 11 = .ok (.goto 4, 3) := by decide +kernel
theorem dL_cell_14 : decode cL_cell 14 = .ok (.iconst 0, 1) := by decide +kernel
theorem dL_cell_15 : decode cL_cell 15 = .ok (.sipush 1009, 3) := by decide +kernel
theorem dL_cell_18 : decode cL_cell 18 = .ok (.iload_n 1, 1) := by decide +kernel
theorem dL_cell_19 : decode cL_cell 19 = .ok (.imul, 1) := by decide +kernel
theorem dL_cell_20 : decode cL_cell 20 = .ok (.iadd, 1) := by decide +kernel
theorem dL_cell_21 : decode cL_cell 21 = .ok (.imul, 1) := by decide +kernel
theorem dL_cell_22 : decode cL_cell 22 = .ok (.sipush 12345, 3) := by decide +kernel
theorem dL_cell_25 : decode cL_cell 25 = .ok (.iadd, 1) := by decide +kernel
theorem dL_cell_26 : decode cL_cell 26 = .ok (.istore_n 2, 1) := by decide +kernel
theorem dL_cell_27 : decode cL_cell 27 = .ok (.iload_n 2, 1) := by decide +kernel
theorem dL_cell_28 : decode cL_cell 28 = .ok (.iload_n 2, 1) := by decide +kernel
theorem dL_cell_29 : decode cL_cell 29 = .ok (.bipush 13, 2) := by decide +kernel
theorem dL_cell_31 : decode cL_cell 31 = .ok (.iushr, 1) := by decide +kernel
theorem dL_cell_32 : decode cL_cell 32 = .ok (.ixor, 1) := by decide +kernel
theorem dL_cell_33 : decode cL_cell 33 = .ok (.ldc 8, 2) := by decide +kernel
theorem dL_cell_35 : decode cL_cell 35 = .ok (.imul, 1) := by decide +kernel
theorem dL_cell_36 : decode cL_cell 36 = .ok (.istore_n 2, 1) := by decide +kernel
theorem dL_cell_37 : decode cL_cell 37 = .ok (.iload_n 2, 1) := by decide +kernel
theorem dL_cell_38 : decode cL_cell 38 = .ok (.iload_n 2, 1) := by decide +kernel
theorem dL_cell_39 : decode cL_cell 39 = .ok (.bipush 16, 2) := by decide +kernel
theorem dL_cell_41 : decode cL_cell 41 = .ok (.iushr, 1) := by decide +kernel
theorem dL_cell_42 : decode cL_cell 42 = .ok (.ixor, 1) := by decide +kernel
theorem dL_cell_43 : decode cL_cell 43 = .ok (.ireturn, 1) := by decide +kernel
set_option maxRecDepth 20000 in
theorem ggL_addObject_X11_addObject : GoodIn wsL_addObject wsX11_addObject := goodIn_ca (goodIn_ca (goodIn_r _ [9, 10, 11, 12, 13, 14, 15, 16, 17, 18, 19, 20, 21, 22, 23, 24, 25, 26, 27, 28, 29, 30, 31, 32, 33, 34, 35, 36, 37, 38, 39, 40, 41, 42, 43, 44, 45, 46, 47, 48, 49, 50, 51, 52, 53, 54, 55, 56, 57, 58, 59, 60, 61, 62, 63, 64, 65] (by decide +kernel) (by decide +kernel)) (goodIn_sub (fun _ h => List.mem_cons_of_mem _ (List.mem_append_left _ (List.mem_append_right _ h))) (by decide +kernel))) (goodIn_sub (fun _ h => List.mem_cons_of_mem _ (List.mem_append_right _ h)) (by decide +kernel))
set_option maxRecDepth 20000 in
theorem gL_addObject_X11_addObject : GoodIn wsL_addObject (wsV RL 9 RX11 yX11_addObject wsX11_addObject) := goodIn_app (goodIn_of _ (by decide +kernel)) ggL_addObject_X11_addObject
theorem dL_addObject_0 : decode cL_addObject 0 = .ok (.aload_n 0, 1) := by decide +kernel
theorem dL_addObject_1 : decode cL_addObject 1 = .ok (.iload_n 1, 1) := by decide +kernel
theorem dL_addObject_2 : decode cL_addObject 2 = .ok (.invokevirtual 9, 3) := by decide +kernel
theorem dL_addObject_5 : decode cL_addObject 5 = .ok (.ireturn, 1) := by decide +kernel
theorem dL_addObject_6 : decode cL_addObject 6 = .ok (.astore_n 2, 1) := by decide +kernel
theorem dL_addObject_7 : decode cL_addObject 7 = .ok (.ldc 17, 2) := by decide +kernel
theorem dL_addObject_9 : decode cL_addObject 9 = .ok (.ireturn, 1) := by decide +kernel
theorem dL_addObject_10 : decode cL_addObject 10 = .ok (.astore_n 2, 1) := by decide +kernel
theorem dL_addObject_11 : decode cL_addObject 11 = .ok (.ldc 20, 2) := by decide +kernel
theorem dL_addObject_13 : decode cL_addObject 13 = .ok (.ireturn, 1) := by decide +kernel
set_option maxRecDepth 20000 in
theorem ggL_addProxy_X11_addProxy : GoodIn wsL_addProxy wsX11_addProxy := goodIn_ca (goodIn_ca (goodIn_r _ [9, 10, 11, 12, 13, 14, 15, 16, 17, 18, 19, 20, 21, 22, 23, 24, 25, 26, 27, 28, 29, 30, 31, 32, 33, 34, 35, 36, 37, 38, 39, 40, 41, 42, 43, 44, 45, 46, 47, 48, 49, 50, 51, 52, 53, 54, 55, 56, 57, 58, 59, 60, 61, 62, 63, 64, 65] (by decide +kernel) (by decide +kernel)) (goodIn_sub (fun _ h => List.mem_cons_of_mem _ (List.mem_append_left _ (List.mem_append_right _ h))) (by decide +kernel))) (goodIn_sub (fun _ h => List.mem_cons_of_mem _ (List.mem_append_right _ h)) (by decide +kernel))
set_option maxRecDepth 20000 in
theorem gL_addProxy_X11_addProxy : GoodIn wsL_addProxy (wsV RL 21 RX11 yX11_addProxy wsX11_addProxy) := goodIn_app (goodIn_of _ (by decide +kernel)) ggL_addProxy_X11_addProxy
theorem dL_addProxy_0 : decode cL_addProxy 0 = .ok (.aload_n 0, 1) := by decide +kernel
theorem dL_addProxy_1 : decode cL_addProxy 1 = .ok (.iload_n 1, 1) := by decide +kernel
theorem dL_addProxy_2 : decode cL_addProxy 2 = .ok (.invokevirtual 21, 3) := by decide +kernel
theorem dL_addProxy_5 : decode cL_addProxy 5 = .ok (.ireturn, 1) := by decide +kernel
theorem dL_addProxy_6 : decode cL_addProxy 6 = .ok (.astore_n 2, 1) := by decide +kernel
theorem dL_addProxy_7 : decode cL_addProxy 7 = .ok (.ldc 17, 2) := by decide +kernel
theorem dL_addProxy_9 : decode cL_addProxy 9 = .ok (.ireturn, 1) := by decide +kernel
theorem dL_addProxy_10 : decode cL_addProxy 10 = .ok (.astore_n 2, 1) := by decide +kernel
theorem dL_addProxy_11 : decode cL_addProxy 11 = .ok (.ldc 20, 2) := by decide +kernel
theorem dL_addProxy_13 : decode cL_addProxy 13 = .ok (.ireturn, 1) := by decide +kernel
set_option maxRecDepth 20000 in
theorem ggL_define_X11_define : GoodIn wsL_define wsX11_define := goodIn_ca (goodIn_ca (goodIn_ca (goodIn_r _ [9, 10, 11, 12, 13, 14, 15, 16, 17, 18, 19, 20, 21, 22, 23, 8, 24, 25, 26, 27, 28, 29, 30, 31, 32, 33, 34, 35, 36, 37, 38, 39, 40, 41, 42, 43, 44, 45, 46, 47, 48, 49, 50, 51, 52, 53, 54, 55, 56, 57, 58, 59, 60, 61, 62, 63, 64, 65, 66, 67, 68, 69, 70, 71, 72, 73, 74, 75, 76, 77, 78] (by decide +kernel) (by decide +kernel)) (goodIn_sub (fun _ h => List.mem_cons_of_mem _ (List.mem_append_left _ (List.mem_append_left _ (List.mem_append_right _ h)))) (by decide +kernel))) (goodIn_sub (fun _ h => List.mem_cons_of_mem _ (List.mem_append_left _ (List.mem_append_right _ h))) (by decide +kernel))) (goodIn_sub (fun _ h => List.mem_cons_of_mem _ (List.mem_append_right _ h)) (by decide +kernel))
set_option maxRecDepth 20000 in
theorem gL_define_X11_define : GoodIn wsL_define (wsV RL 24 RX11 yX11_define wsX11_define) := goodIn_app (goodIn_of _ (by decide +kernel)) ggL_define_X11_define
theorem dL_define_0 : decode cL_define 0 = .ok (.aload_n 0, 1) := by decide +kernel
theorem dL_define_1 : decode cL_define 1 = .ok (.iload_n 1, 1) := by decide +kernel
theorem dL_define_2 : decode cL_define 2 = .ok (.iload_n 2, 1) := by decide +kernel
theorem dL_define_3 : decode cL_define 3 = .ok (.iload_n 3, 1) := by decide +kernel
theorem dL_define_4 : decode cL_define 4 = .ok (.iload 4, 2) := by decide +kernel
theorem dL_define_6 : decode cL_define 6 = .ok (.invokevirtual 24, 3) := by decide +kernel
theorem dL_define_9 : decode cL_define 9 = .ok (.ireturn, 1) := by decide +kernel
theorem dL_define_10 : decode cL_define 10 = .ok (.astore 5, 2) := by decide +kernel
theorem dL_define_12 : decode cL_define 12 = .ok (.ldc 17, 2) := by decide +kernel
theorem dL_define_14 : decode cL_define 14 = .ok (.ireturn, 1) := by decide +kernel
theorem dL_define_15 : decode cL_define 15 = .ok (.astore 5, 2) := by decide +kernel
theorem dL_define_17 : decode cL_define 17 = .ok (.ldc 20, 2) := by decide +kernel
theorem dL_define_19 : decode cL_define 19 = .ok (.ireturn, 1) := by decide +kernel
set_option maxRecDepth 20000 in
theorem ggL_set_X11_set : GoodIn wsL_set wsX11_set := goodIn_ca (goodIn_ca (goodIn_ca (goodIn_r _ [9, 10, 11, 12, 13, 14, 15, 16, 17, 18, 19, 20, 21, 22, 23, 8, 24, 25, 26, 27, 28, 29, 30, 31, 32, 33, 34, 35, 36, 37, 38, 39, 40, 41, 42, 43, 44, 45, 46, 47, 48, 49, 50, 51, 52, 53, 54, 55, 56, 57, 58, 59, 60, 61, 62, 63, 64, 65, 66, 67, 68, 69, 70, 71, 72, 73, 74, 75, 76, 77, 78, 79, 80, 81, 82, 83, 84, 85, 86, 87, 88, 89, 90, 91, 92, 93, 94, 95, 96, 97, 98, 99, 100, 101, 102, 103, 104, 105, 106, 107, 108, 109, 110, 111, 112, 113, 114, 115] (by decide +kernel) (by decide +kernel)) (goodIn_sub (fun _ h => List.mem_cons_of_mem _ (List.mem_append_left _ (List.mem_append_left _ (List.mem_append_right _ h)))) (by decide +kernel))) (goodIn_sub (fun _ h => List.mem_cons_of_mem _ (List.mem_append_left _ (List.mem_append_right _ h))) (by decide +kernel))) (goodIn_sub (fun _ h => List.mem_cons_of_mem _ (List.mem_append_right _ h)) (by decide +kernel))
set_option maxRecDepth 20000 in
theorem gL_set_X11_set : GoodIn wsL_set (wsV RL 30 RX11 yX11_set wsX11_set) := goodIn_app (goodIn_of _ (by decide +kernel)) ggL_set_X11_set
theorem dL_set_0 : decode cL_set 0 = .ok (.aload_n 0, 1) := by decide +kernel
theorem dL_set_1 : decode cL_set 1 = .ok (.iload_n 1, 1) := by decide +kernel
theorem dL_set_2 : decode cL_set 2 = .ok (.iload_n 2, 1) := by decide +kernel
theorem dL_set_3 : decode cL_set 3 = .ok (.iload_n 3, 1) := by decide +kernel
theorem dL_set_4 : decode cL_set 4 = .ok (.invokevirtual 30, 3) := by decide +kernel
theorem dL_set_7 : decode cL_set 7 = .ok (.ireturn, 1) := by decide +kernel
theorem dL_set_8 : decode cL_set 8 = .ok (.astore 4, 2) := by decide +kernel
theorem dL_set_10 : decode cL_set 10 = .ok (.ldc 17, 2) := by decide +kernel
theorem dL_set_12 : decode cL_set 12 = .ok (.ireturn, 1) := by decide +kernel
theorem dL_set_13 : decode cL_set 13 = .ok (.astore 4, 2) := by decide +kernel
theorem dL_set_15 : decode cL_set 15 = .ok (.ldc 20, 2) := by decide +kernel
theorem dL_set_17 : decode cL_set 17 = .ok (.ireturn, 1) := by decide +kernel
set_option maxRecDepth 20000 in
theorem ggL_get_X11_get : GoodIn wsL_get wsX11_get := goodIn_ca (goodIn_ca (goodIn_ca (goodIn_r _ [9, 10, 11, 12, 13, 14, 15, 16, 17, 18, 19, 20, 21, 22, 23, 24, 8, 25, 26, 27, 28, 29, 30, 31, 32, 33, 34, 35, 36, 37, 38, 39, 40, 41, 42, 43, 44, 45, 46, 47, 48, 49, 50, 51, 52, 53, 54, 55, 56, 57, 58, 59, 60, 61, 62, 63, 64, 65, 66, 67, 68, 69, 70, 71, 72, 73, 74, 75, 76, 77, 78, 79, 80, 81, 82, 83, 84, 85, 86, 87, 88, 89] (by decide +kernel) (by decide +kernel)) (goodIn_sub (fun _ h => List.mem_cons_of_mem _ (List.mem_append_left _ (List.mem_append_left _ (List.mem_append_right _ h)))) (by decide +kernel))) (goodIn_sub (fun _ h => List.mem_cons_of_mem _ (List.mem_append_left _ (List.mem_append_right _ h))) (by decide +kernel))) (goodIn_sub (fun _ h => List.mem_cons_of_mem _ (List.mem_append_right _ h)) (by decide +kernel))
set_option maxRecDepth 20000 in
theorem gL_get_X11_get : GoodIn wsL_get (wsV RL 34 RX11 yX11_get wsX11_get) := goodIn_app (goodIn_of _ (by decide +kernel)) ggL_get_X11_get
theorem dL_get_0 : decode cL_get 0 = .ok (.aload_n 0, 1) := by decide +kernel
theorem dL_get_1 : decode cL_get 1 = .ok (.iload_n 1, 1) := by decide +kernel
theorem dL_get_2 : decode cL_get 2 = .ok (.iload_n 2, 1) := by decide +kernel
theorem dL_get_3 : decode cL_get 3 = .ok (.invokevirtual 34, 3) := by decide +kernel
theorem dL_get_6 : decode cL_get 6 = .ok (.ireturn, 1) := by decide +kernel
theorem dL_get_7 : decode cL_get 7 = .ok (.astore_n 3, 1) := by decide +kernel
theorem dL_get_8 : decode cL_get 8 = .ok (.ldc 17, 2) := by decide +kernel
theorem dL_get_10 : decode cL_get 10 = .ok (.ireturn, 1) := by decide +kernel
theorem dL_get_11 : decode cL_get 11 = .ok (.astore_n 3, 1) := by decide +kernel
theorem dL_get_12 : decode cL_get 12 = .ok (.ldc 20, 2) := by decide +kernel
theorem dL_get_14 : decode cL_get 14 = .ok (.ireturn, 1) := by decide +kernel
set_option maxRecDepth 20000 in
theorem ggL_has_X11_has : GoodIn wsL_has wsX11_has := goodIn_ca (goodIn_ca (goodIn_r _ [7, 8, 9, 10, 11, 12, 13, 14, 15, 16, 17, 18, 19, 6, 20, 21, 22, 23, 24, 25, 26, 27, 28, 29, 30, 31, 32, 33, 34, 35, 36, 37, 38, 39, 40, 41, 42, 43, 44, 45, 46, 47, 48, 49, 50, 51, 52, 53, 54, 55, 56, 57, 58, 59, 60, 61, 62, 63, 64, 65, 66, 67, 68, 69, 70, 71, 72, 73, 74, 75, 76, 77, 78, 79, 80, 81] (by decide +kernel) (by decide +kernel)) (goodIn_sub (fun _ h => List.mem_cons_of_mem _ (List.mem_append_left _ (List.mem_append_right _ h))) (by decide +kernel))) (goodIn_sub (fun _ h => List.mem_cons_of_mem _ (List.mem_append_right _ h)) (by decide +kernel))
set_option maxRecDepth 20000 in
theorem gL_has_X11_has : GoodIn wsL_has (wsV RL 40 RX11 yX11_has wsX11_has) := goodIn_app (goodIn_of _ (by decide +kernel)) ggL_has_X11_has
theorem dL_has_0 : decode cL_has 0 = .ok (.aload_n 0, 1) := by decide +kernel
theorem dL_has_1 : decode cL_has 1 = .ok (.iload_n 1, 1) := by decide +kernel
theorem dL_has_2 : decode cL_has 2 = .ok (.iload_n 2, 1) := by decide +kernel
theorem dL_has_3 : decode cL_has 3 = .ok (.invokevirtual 40, 3) := by decide +kernel
theorem dL_has_6 : decode cL_has 6 = .ok (.ireturn, 1) := by decide +kernel
theorem dL_has_7 : decode cL_has 7 = .ok (.astore_n 3, 1) := by decide +kernel
theorem dL_has_8 : decode cL_has 8 = .ok (.ldc 17, 2) := by decide +kernel
theorem dL_has_10 : decode cL_has 10 = .ok (.ireturn, 1) := by decide +kernel
set_option maxRecDepth 20000 in
theorem ggL_delete_X11_delete : GoodIn wsL_delete wsX11_delete := goodIn_ca (goodIn_ca (goodIn_r _ [7, 8, 9, 10, 11, 12, 13, 14, 15, 16, 17, 18, 19, 6, 20, 21, 22, 23, 24, 25, 26, 27, 28, 29, 30, 31, 32, 33, 34, 35, 36, 37, 38, 39, 40, 41, 42, 43, 44, 45, 46, 47, 48, 49, 50, 51, 52, 53, 54, 55, 56, 57, 58, 59, 60, 61, 62, 63, 64, 65, 66, 67, 68, 69, 70, 71, 72, 73, 74, 75, 76, 77, 78, 79, 80, 81, 82, 83, 84, 85] (by decide +kernel) (by decide +kernel)) (goodIn_sub (fun _ h => List.mem_cons_of_mem _ (List.mem_append_left _ (List.mem_append_right _ h))) (by decide +kernel))) (goodIn_sub (fun _ h => List.mem_cons_of_mem _ (List.mem_append_right _ h)) (by decide +kernel))
set_option maxRecDepth 20000 in
theorem gL_delete_X11_delete : GoodIn wsL_delete (wsV RL 44 RX11 yX11_delete wsX11_delete) := goodIn_app (goodIn_of _ (by decide +kernel)) ggL_delete_X11_delete
theorem dL_delete_0 : decode cL_delete 0 = .ok (.aload_n 0, 1) := by decide +kernel
theorem dL_delete_1 : decode cL_delete 1 = .ok (.iload_n 1, 1) := by decide +kernel
theorem dL_delete_2 : decode cL_delete 2 = .ok (.iload_n 2, 1) := by decide +kernel
theorem dL_delete_3 : decode cL_delete 3 = .ok (.invokevirtual 44, 3) := by decide +kernel
theorem dL_delete_6 : decode cL_delete 6 = .ok (.ireturn, 1) := by decide +kernel
theorem dL_delete_7 : decode cL_delete 7 = .ok (.astore_n 3, 1) := by decide +kernel
theorem dL_delete_8 : decode cL_delete 8 = .ok (.ldc 17, 2) := by decide +kernel
theorem dL_delete_10 : decode cL_delete 10 = .ok (.ireturn, 1) := by decide +kernel
set_option maxRecDepth 20000 in
theorem ggL_closeObject_X11_closeObject : GoodIn wsL_closeObject wsX11_closeObject := goodIn_ca (goodIn_r _ [7, 8, 9, 10, 11, 12, 13, 14, 15, 16, 17, 18, 19, 20, 21, 22, 23, 24, 25, 26, 27, 28, 29, 30, 31, 32, 33, 34, 35, 36, 37, 38, 39, 40, 41, 42, 43, 44, 45] (by decide +kernel) (by decide +kernel)) (goodIn_sub (fun _ h => List.mem_cons_of_mem _ (List.mem_append_right _ h)) (by decide +kernel))
set_option maxRecDepth 20000 in
theorem gL_closeObject_X11_closeObject : GoodIn wsL_closeObject (wsV RL 47 RX11 yX11_closeObject wsX11_closeObject) := goodIn_app (goodIn_of _ (by decide +kernel)) ggL_closeObject_X11_closeObject
theorem dL_closeObject_0 : decode cL_closeObject 0 = .ok (.aload_n 0, 1) := by decide +kernel
theorem dL_closeObject_1 : decode cL_closeObject 1 = .ok (.iload_n 1, 1) := by decide +kernel
theorem dL_closeObject_2 : decode cL_closeObject 2 = .ok (.invokevirtual 47, 3) := by decide +kernel
theorem dL_closeObject_5 : decode cL_closeObject 5 = .ok (.ireturn, 1) := by decide +kernel
theorem dL_closeObject_6 : decode cL_closeObject 6 = .ok (.astore_n 2, 1) := by decide +kernel
theorem dL_closeObject_7 : decode cL_closeObject 7 = .ok (.ldc 17, 2) := by decide +kernel
theorem dL_closeObject_9 : decode cL_closeObject 9 = .ok (.ireturn, 1) := by decide +kernel
set_option maxRecDepth 20000 in
theorem ggL_setChain_X11_setChain : GoodIn wsL_setChain wsX11_setChain := goodIn_ca (goodIn_r _ [7, 8, 9, 10, 11, 12, 13, 14, 15, 16, 17, 18, 19, 20, 21, 22, 23, 24, 25, 26, 27, 28, 29, 30, 31, 32, 33, 34, 35, 36, 37, 38, 39, 40, 41, 42, 43, 44, 45, 46, 47, 48, 49, 50] (by decide +kernel) (by decide +kernel)) (goodIn_sub (fun _ h => List.mem_cons_of_mem _ (List.mem_append_right _ h)) (by decide +kernel))
set_option maxRecDepth 20000 in
theorem gL_setChain_X11_setChain : GoodIn wsL_setChain (wsV RL 51 RX11 yX11_setChain wsX11_setChain) := goodIn_app (goodIn_of _ (by decide +kernel)) ggL_setChain_X11_setChain
theorem dL_setChain_0 : decode cL_setChain 0 = .ok (.aload_n 0, 1) := by decide +kernel
theorem dL_setChain_1 : decode cL_setChain 1 = .ok (.iload_n 1, 1) := by decide +kernel
theorem dL_setChain_2 : decode cL_setChain 2 = .ok (.iload_n 2, 1) := by decide +kernel
theorem dL_setChain_3 : decode cL_setChain 3 = .ok (.invokevirtual 51, 3) := by decide +kernel
theorem dL_setChain_6 : decode cL_setChain 6 = .ok (.ireturn, 1) := by decide +kernel
theorem dL_setChain_7 : decode cL_setChain 7 = .ok (.astore_n 3, 1) := by decide +kernel
theorem dL_setChain_8 : decode cL_setChain 8 = .ok (.ldc 17, 2) := by decide +kernel
theorem dL_setChain_10 : decode cL_setChain 10 = .ok (.ireturn, 1) := by decide +kernel
set_option maxRecDepth 20000 in
theorem ggL_keys_X11_keys : GoodIn wsL_keys wsX11_keys := goodIn_ca (goodIn_ca (goodIn_r _ [9, 10, 11, 12, 13, 14, 15, 16, 17, 18, 19, 20, 21, 22, 23, 24, 25, 26, 27, 28, 29, 30, 31, 32, 33, 34, 35, 36, 37, 38, 39, 40, 41, 42, 43, 44, 45, 46, 47, 48, 49] (by decide +kernel) (by decide +kernel)) (goodIn_sub (fun _ h => List.mem_cons_of_mem _ (List.mem_append_left _ (List.mem_append_right _ h))) (by decide +kernel))) (goodIn_sub (fun _ h => List.mem_cons_of_mem _ (List.mem_append_right _ h)) (by decide +kernel))
set_option maxRecDepth 20000 in
theorem gL_keys_X11_keys : GoodIn wsL_keys (wsV RL 54 RX11 yX11_keys wsX11_keys) := goodIn_app (goodIn_of _ (by decide +kernel)) ggL_keys_X11_keys
theorem dL_keys_0 : decode cL_keys 0 = .ok (.aload_n 0, 1) := by decide +kernel
theorem dL_keys_1 : decode cL_keys 1 = .ok (.iload_n 1, 1) := by decide +kernel
theorem dL_keys_2 : decode cL_keys 2 = .ok (.invokevirtual 54, 3) := by decide +kernel
theorem dL_keys_5 : decode cL_keys 5 = .ok (.ireturn, 1) := by decide +kernel
theorem dL_keys_6 : decode cL_keys 6 = .ok (.astore_n 2, 1) := by decide +kernel
theorem dL_keys_7 : decode cL_keys 7 = .ok (.ldc 17, 2) := by decide +kernel
theorem dL_keys_9 : decode cL_keys 9 = .ok (.ireturn, 1) := by decide +kernel
theorem dL_keys_10 : decode cL_keys 10 = .ok (.astore_n 2, 1) := by decide +kernel
theorem dL_keys_11 : decode cL_keys 11 = .ok (.ldc 20, 2) := by decide +kernel
theorem dL_keys_13 : decode cL_keys 13 = .ok (.ireturn, 1) := by decide +kernel
set_option maxRecDepth 20000 in
theorem ggL_keyAt_X11_keyAt : GoodIn wsL_keyAt wsX11_keyAt := goodIn_ca (goodIn_ca (goodIn_ca (goodIn_ca (goodIn_r _ [11, 12, 13, 14, 15, 16, 17, 18, 19, 20, 21, 22, 23, 24, 25, 26, 27, 28, 29, 30, 31, 32, 33, 34, 35, 36, 37, 38, 39, 40, 41, 42, 43, 44, 45, 46, 47, 48, 49, 50, 51, 52, 53, 54, 55, 56, 57, 58] (by decide +kernel) (by decide +kernel)) (goodIn_sub (fun _ h => List.mem_cons_of_mem _ (List.mem_append_left _ (List.mem_append_left _ (List.mem_append_left _ (List.mem_append_right _ h))))) (by decide +kernel))) (goodIn_sub (fun _ h => List.mem_cons_of_mem _ (List.mem_append_left _ (List.mem_append_left _ (List.mem_append_right _ h)))) (by decide +kernel))) (goodIn_sub (fun _ h => List.mem_cons_of_mem _ (List.mem_append_left _ (List.mem_append_right _ h))) (by decide +kernel))) (goodIn_sub (fun _ h => List.mem_cons_of_mem _ (List.mem_append_right _ h)) (by decide +kernel))
set_option maxRecDepth 20000 in
theorem gL_keyAt_X11_keyAt : GoodIn wsL_keyAt (wsV RL 57 RX11 yX11_keyAt wsX11_keyAt) := goodIn_app (goodIn_of _ (by decide +kernel)) ggL_keyAt_X11_keyAt
theorem dL_keyAt_0 : decode cL_keyAt 0 = .ok (.aload_n 0, 1) := by decide +kernel
theorem dL_keyAt_1 : decode cL_keyAt 1 = .ok (.iload_n 1, 1) := by decide +kernel
theorem dL_keyAt_2 : decode cL_keyAt 2 = .ok (.iload_n 2, 1) := by decide +kernel
theorem dL_keyAt_3 : decode cL_keyAt 3 = .ok (.invokevirtual 57, 3) := by decide +kernel
theorem dL_keyAt_6 : decode cL_keyAt 6 = .ok (.ireturn, 1) := by decide +kernel
theorem dL_keyAt_7 : decode cL_keyAt 7 = .ok (.astore_n 3, 1) := by decide +kernel
theorem dL_keyAt_8 : decode cL_keyAt 8 = .ok (.ldc 17, 2) := by decide +kernel
theorem dL_keyAt_10 : decode cL_keyAt 10 = .ok (.ireturn, 1) := by decide +kernel
theorem dL_keyAt_11 : decode cL_keyAt 11 = .ok (.astore_n 3, 1) := by decide +kernel
theorem dL_keyAt_12 : decode cL_keyAt 12 = .ok (.ldc 20, 2) := by decide +kernel
theorem dL_keyAt_14 : decode cL_keyAt 14 = .ok (.ireturn, 1) := by decide +kernel
theorem dL_keyAt_15 : decode cL_keyAt 15 = .ok (.astore_n 3, 1) := by decide +kernel
theorem dL_keyAt_16 : decode cL_keyAt 16 = .ok (.ldc 62, 2) := by decide +kernel
theorem dL_keyAt_18 : decode cL_keyAt 18 = .ok (.ireturn, 1) := by decide +kernel
set_option maxRecDepth 20000 in
theorem ggL_rights_X11_rights : GoodIn wsL_rights wsX11_rights := goodIn_ca (goodIn_ca (goodIn_ca (goodIn_ca (goodIn_r _ [11, 12, 13, 14, 15, 16, 17, 18, 19, 20, 21, 22, 23, 24, 25, 26, 27, 10, 28, 29, 30, 31, 32, 33, 34, 35, 36, 37, 38, 39, 40, 41, 42, 43, 44, 45, 46, 47, 48, 49, 50, 51, 52, 53, 54, 55, 56, 57, 58, 59, 60] (by decide +kernel) (by decide +kernel)) (goodIn_sub (fun _ h => List.mem_cons_of_mem _ (List.mem_append_left _ (List.mem_append_left _ (List.mem_append_left _ (List.mem_append_right _ h))))) (by decide +kernel))) (goodIn_sub (fun _ h => List.mem_cons_of_mem _ (List.mem_append_left _ (List.mem_append_left _ (List.mem_append_right _ h)))) (by decide +kernel))) (goodIn_sub (fun _ h => List.mem_cons_of_mem _ (List.mem_append_left _ (List.mem_append_right _ h))) (by decide +kernel))) (goodIn_sub (fun _ h => List.mem_cons_of_mem _ (List.mem_append_right _ h)) (by decide +kernel))
set_option maxRecDepth 20000 in
theorem gL_rights_X11_rights : GoodIn wsL_rights (wsV RL 63 RX11 yX11_rights wsX11_rights) := goodIn_app (goodIn_of _ (by decide +kernel)) ggL_rights_X11_rights
theorem dL_rights_0 : decode cL_rights 0 = .ok (.aload_n 0, 1) := by decide +kernel
theorem dL_rights_1 : decode cL_rights 1 = .ok (.iload_n 1, 1) := by decide +kernel
theorem dL_rights_2 : decode cL_rights 2 = .ok (.iload_n 2, 1) := by decide +kernel
theorem dL_rights_3 : decode cL_rights 3 = .ok (.invokevirtual 63, 3) := by decide +kernel
theorem dL_rights_6 : decode cL_rights 6 = .ok (.ireturn, 1) := by decide +kernel
theorem dL_rights_7 : decode cL_rights 7 = .ok (.astore_n 3, 1) := by decide +kernel
theorem dL_rights_8 : decode cL_rights 8 = .ok (.ldc 17, 2) := by decide +kernel
theorem dL_rights_10 : decode cL_rights 10 = .ok (.ireturn, 1) := by decide +kernel
theorem dL_rights_11 : decode cL_rights 11 = .ok (.astore_n 3, 1) := by decide +kernel
theorem dL_rights_12 : decode cL_rights 12 = .ok (.ldc 20, 2) := by decide +kernel
theorem dL_rights_14 : decode cL_rights 14 = .ok (.ireturn, 1) := by decide +kernel
theorem dL_rights_15 : decode cL_rights 15 = .ok (.astore_n 3, 1) := by decide +kernel
theorem dL_rights_16 : decode cL_rights 16 = .ok (.ldc 62, 2) := by decide +kernel
theorem dL_rights_18 : decode cL_rights 18 = .ok (.ireturn, 1) := by decide +kernel
set_option maxRecDepth 20000 in
theorem ggL_tell_X11_tell : GoodIn wsL_tell wsX11_tell := goodIn_ca (goodIn_ca (goodIn_ca (goodIn_ca (goodIn_r _ [11, 12, 13, 14, 15, 16, 17, 18, 19, 20, 21, 22, 23, 24, 25, 26, 27, 10, 28, 29, 30, 31, 32, 33, 34, 35, 36, 37, 38, 39, 40, 41, 42, 43, 44, 45, 46, 47, 48, 49, 50, 51, 52, 53, 54, 55, 56, 57, 58, 59, 60, 61, 62, 63, 64, 65, 66, 67, 68, 69] (by decide +kernel) (by decide +kernel)) (goodIn_sub (fun _ h => List.mem_cons_of_mem _ (List.mem_append_left _ (List.mem_append_left _ (List.mem_append_left _ (List.mem_append_right _ h))))) (by decide +kernel))) (goodIn_sub (fun _ h => List.mem_cons_of_mem _ (List.mem_append_left _ (List.mem_append_left _ (List.mem_append_right _ h)))) (by decide +kernel))) (goodIn_sub (fun _ h => List.mem_cons_of_mem _ (List.mem_append_left _ (List.mem_append_right _ h))) (by decide +kernel))) (goodIn_sub (fun _ h => List.mem_cons_of_mem _ (List.mem_append_right _ h)) (by decide +kernel))
set_option maxRecDepth 20000 in
theorem gL_tell_X11_tell : GoodIn wsL_tell (wsV RL 66 RX11 yX11_tell wsX11_tell) := goodIn_app (goodIn_of _ (by decide +kernel)) ggL_tell_X11_tell
theorem dL_tell_0 : decode cL_tell 0 = .ok (.aload_n 0, 1) := by decide +kernel
theorem dL_tell_1 : decode cL_tell 1 = .ok (.iload_n 1, 1) := by decide +kernel
theorem dL_tell_2 : decode cL_tell 2 = .ok (.iload_n 2, 1) := by decide +kernel
theorem dL_tell_3 : decode cL_tell 3 = .ok (.iload_n 3, 1) := by decide +kernel
theorem dL_tell_4 : decode cL_tell 4 = .ok (.invokevirtual 66, 3) := by decide +kernel
theorem dL_tell_7 : decode cL_tell 7 = .ok (.ifCond .eq 7, 3) := by decide +kernel
theorem dL_tell_10 : decode cL_tell 10 = .ok (.iconst 1, 1) := by decide +kernel
theorem dL_tell_11 : decode cL_tell 11 = .ok (.goto 4, 3) := by decide +kernel
theorem dL_tell_14 : decode cL_tell 14 = .ok (.iconst 0, 1) := by decide +kernel
theorem dL_tell_15 : decode cL_tell 15 = .ok (.ireturn, 1) := by decide +kernel
theorem dL_tell_16 : decode cL_tell 16 = .ok (.astore 4, 2) := by decide +kernel
theorem dL_tell_18 : decode cL_tell 18 = .ok (.ldc 17, 2) := by decide +kernel
theorem dL_tell_20 : decode cL_tell 20 = .ok (.ireturn, 1) := by decide +kernel
theorem dL_tell_21 : decode cL_tell 21 = .ok (.astore 4, 2) := by decide +kernel
theorem dL_tell_23 : decode cL_tell 23 = .ok (.ldc 20, 2) := by decide +kernel
theorem dL_tell_25 : decode cL_tell 25 = .ok (.ireturn, 1) := by decide +kernel
theorem dL_tell_26 : decode cL_tell 26 = .ok (.astore 4, 2) := by decide +kernel
theorem dL_tell_28 : decode cL_tell 28 = .ok (.ldc 62, 2) := by decide +kernel
theorem dL_tell_30 : decode cL_tell 30 = .ok (.ireturn, 1) := by decide +kernel
set_option maxRecDepth 20000 in
theorem ggL_revoke_X11_revoke : GoodIn wsL_revoke wsX11_revoke := goodIn_ca (goodIn_ca (goodIn_r _ [9, 10, 11, 12, 13, 14, 15, 16, 17, 18, 19, 20, 21, 22, 23, 24, 25, 26, 27, 28, 29, 30, 31, 32, 33, 34, 35, 36, 37, 38, 39, 40, 41, 42, 43] (by decide +kernel) (by decide +kernel)) (goodIn_sub (fun _ h => List.mem_cons_of_mem _ (List.mem_append_left _ (List.mem_append_right _ h))) (by decide +kernel))) (goodIn_sub (fun _ h => List.mem_cons_of_mem _ (List.mem_append_right _ h)) (by decide +kernel))
set_option maxRecDepth 20000 in
theorem gL_revoke_X11_revoke : GoodIn wsL_revoke (wsV RL 70 RX11 yX11_revoke wsX11_revoke) := goodIn_app (goodIn_of _ (by decide +kernel)) ggL_revoke_X11_revoke
theorem dL_revoke_0 : decode cL_revoke 0 = .ok (.aload_n 0, 1) := by decide +kernel
theorem dL_revoke_1 : decode cL_revoke 1 = .ok (.iload_n 1, 1) := by decide +kernel
theorem dL_revoke_2 : decode cL_revoke 2 = .ok (.invokevirtual 70, 3) := by decide +kernel
theorem dL_revoke_5 : decode cL_revoke 5 = .ok (.ifCond .eq 7, 3) := by decide +kernel
theorem dL_revoke_8 : decode cL_revoke 8 = .ok (.iconst 1, 1) := by decide +kernel
theorem dL_revoke_9 : decode cL_revoke 9 = .ok (.goto 4, 3) := by decide +kernel
theorem dL_revoke_12 : decode cL_revoke 12 = .ok (.iconst 0, 1) := by decide +kernel
theorem dL_revoke_13 : decode cL_revoke 13 = .ok (.ireturn, 1) := by decide +kernel
theorem dL_revoke_14 : decode cL_revoke 14 = .ok (.astore_n 2, 1) := by decide +kernel
theorem dL_revoke_15 : decode cL_revoke 15 = .ok (.ldc 17, 2) := by decide +kernel
theorem dL_revoke_17 : decode cL_revoke 17 = .ok (.ireturn, 1) := by decide +kernel
theorem dL_revoke_18 : decode cL_revoke 18 = .ok (.astore_n 2, 1) := by decide +kernel
theorem dL_revoke_19 : decode cL_revoke 19 = .ok (.ldc 20, 2) := by decide +kernel
theorem dL_revoke_21 : decode cL_revoke 21 = .ok (.ireturn, 1) := by decide +kernel
set_option maxRecDepth 20000 in
theorem ggL_in_L_cell : GoodIn wsL_in wsL_cell := goodIn_ca (goodIn_r _ [5, 6, 7] (by decide +kernel) (by decide +kernel)) (goodIn_sub (fun _ h => List.mem_cons_of_mem _ (List.mem_append_right _ h)) (by decide +kernel))
set_option maxRecDepth 20000 in
theorem gL_in_L_cell : GoodIn wsL_in (va_wsS RL 74 yL_cell wsL_cell) := goodIn_app (goodIn_of _ (by decide +kernel)) ggL_in_L_cell
theorem dL_in_0 : decode cL_in 0 = .ok (.aload_n 0, 1) := by decide +kernel
theorem dL_in_1 : decode cL_in 1 = .ok (.iload_n 1, 1) := by decide +kernel
theorem dL_in_2 : decode cL_in 2 = .ok (.invokestatic 74, 3) := by decide +kernel
theorem dL_in_5 : decode cL_in 5 = .ok (.ldc 80, 2) := by decide +kernel
theorem dL_in_7 : decode cL_in 7 = .ok (.iand, 1) := by decide +kernel
theorem dL_in_8 : decode cL_in 8 = .ok (.iload_n 2, 1) := by decide +kernel
theorem dL_in_9 : decode cL_in 9 = .ok (.irem, 1) := by decide +kernel
theorem dL_in_10 : decode cL_in 10 = .ok (.ireturn, 1) := by decide +kernel
theorem dL_at_0 : decode cL_at 0 = .ok (.bipush 100, 2) := by decide +kernel
theorem dL_at_2 : decode cL_at 2 = .ok (.iconst 4, 1) := by decide +kernel
theorem dL_at_3 : decode cL_at 3 = .ok (.bipush 20, 2) := by decide +kernel
theorem dL_at_5 : decode cL_at 5 = .ok (.iload_n 0, 1) := by decide +kernel
theorem dL_at_6 : decode cL_at 6 = .ok (.imul, 1) := by decide +kernel
theorem dL_at_7 : decode cL_at 7 = .ok (.iload_n 1, 1) := by decide +kernel
theorem dL_at_8 : decode cL_at 8 = .ok (.iadd, 1) := by decide +kernel
theorem dL_at_9 : decode cL_at 9 = .ok (.imul, 1) := by decide +kernel
theorem dL_at_10 : decode cL_at 10 = .ok (.iadd, 1) := by decide +kernel
theorem dL_at_11 : decode cL_at 11 = .ok (.ireturn, 1) := by decide +kernel
theorem dL_plain_0 : decode cL_plain 0 = .ok (.iload_n 1, 1) := by decide +kernel
theorem dL_plain_1 : decode cL_plain 1 = .ok (.iconst 5, 1) := by decide +kernel
theorem dL_plain_2 : decode cL_plain 2 = .ok (.if_icmp .ge 7, 3) := by decide +kernel
theorem dL_plain_5 : decode cL_plain 5 = .ok (.iload_n 1, 1) := by decide +kernel
theorem dL_plain_6 : decode cL_plain 6 = .ok (.goto 33, 3) := by decide +kernel
theorem dL_plain_9 : decode cL_plain 9 = .ok (.aload_n 0, 1) := by decide +kernel
theorem dL_plain_10 : decode cL_plain 10 = .ok (.bipush 30, 2) := by decide +kernel
theorem dL_plain_12 : decode cL_plain 12 = .ok (.iload_n 1, 1) := by decide +kernel
theorem dL_plain_13 : decode cL_plain 13 = .ok (.iadd, 1) := by decide +kernel
theorem dL_plain_14 : decode cL_plain 14 = .ok (.iaload, 1) := by decide +kernel
theorem dL_plain_15 : decode cL_plain 15 = .ok (.iconst 5, 1) := by decide +kernel
theorem dL_plain_16 : decode cL_plain 16 = .ok (.if_icmp .ge 12, 3) := by decide +kernel
theorem dL_plain_19 : decode cL_plain 19 = .ok (.aload_n 0, 1) := by decide +kernel
theorem dL_plain_20 : decode cL_plain 20 = .ok (.bipush 30, 2) := by decide +kernel
theorem dL_plain_22 : decode cL_plain 22 = .ok (.iload_n 1, 1) := by decide +kernel
theorem dL_plain_23 : decode cL_plain 23 = .ok (.iadd, 1) := by decide +kernel
theorem dL_plain_24 : decode cL_plain 24 = .ok (.iaload, 1) := by decide +kernel
theorem dL_plain_25 : decode cL_plain 25 = .ok (.goto 14, 3) := by decide +kernel
theorem dL_plain_28 : decode cL_plain 28 = .ok (.aload_n 0, 1) := by decide +kernel
theorem dL_plain_29 : decode cL_plain 29 = .ok (.bipush 30, 2) := by decide +kernel
theorem dL_plain_31 : decode cL_plain 31 = .ok (.aload_n 0, 1) := by decide +kernel
theorem dL_plain_32 : decode cL_plain 32 = .ok (.bipush 30, 2) := by decide +kernel
theorem dL_plain_34 : decode cL_plain 34 = .ok (.iload_n 1, 1) := by decide +kernel
theorem dL_plain_35 : decode cL_plain 35 = .ok (.iadd, 1) := by decide +kernel
theorem dL_plain_36 : decode cL_plain 36 = .ok (.iaload, 1) := by decide +kernel
theorem dL_plain_37 : decode cL_plain 37 = .ok (.iadd, 1) := by decide +kernel
theorem dL_plain_38 : decode cL_plain 38 = .ok (.iaload, 1) := by decide +kernel
theorem dL_plain_39 : decode cL_plain 39 = .ok (.ireturn, 1) := by decide +kernel
set_option maxRecDepth 20000 in
theorem ggL_defined_L_at : GoodIn wsL_defined wsL_at := goodIn_r _ [4] (by decide +kernel) (by decide +kernel)
set_option maxRecDepth 20000 in
theorem gL_defined_L_at : GoodIn wsL_defined (va_wsS RL 81 yL_at wsL_at) := goodIn_app (goodIn_of _ (by decide +kernel)) ggL_defined_L_at
theorem dL_defined_0 : decode cL_defined 0 = .ok (.iload_n 1, 1) := by decide +kernel
theorem dL_defined_1 : decode cL_defined 1 = .ok (.iload_n 2, 1) := by decide +kernel
theorem dL_defined_2 : decode cL_defined 2 = .ok (.invokestatic 81, 3) := by decide +kernel
theorem dL_defined_5 : decode cL_defined 5 = .ok (.istore 5, 2) := by decide +kernel
theorem dL_defined_7 : decode cL_defined 7 = .ok (.aload_n 0, 1) := by decide +kernel
theorem dL_defined_8 : decode cL_defined 8 = .ok (.iload 5, 2) := by decide +kernel
theorem dL_defined_10 : decode cL_defined 10 = .ok (.iaload, 1) := by decide +kernel
theorem dL_defined_11 : decode cL_defined 11 = .ok (.ifCond .ne 39, 3) := by decide +kernel
theorem dL_defined_14 : decode cL_defined 14 = .ok (.aload_n 0, 1) := by decide +kernel
theorem dL_defined_15 : decode cL_defined 15 = .ok (.iload_n 1, 1) := by decide +kernel
theorem dL_defined_16 : decode cL_defined 16 = .ok (.iaload, 1) := by decide +kernel
theorem dL_defined_17 : decode cL_defined 17 = .ok (.iconst 1, 1) := by decide +kernel
theorem dL_defined_18 : decode cL_defined 18 = .ok (.if_icmp .ne 6, 3) := by decide +kernel
theorem dL_defined_21 : decode cL_defined 21 = .ok (.bipush 110, 2) := by decide +kernel
theorem dL_defined_23 : decode cL_defined 23 = .ok (.ireturn, 1) := by decide +kernel
theorem dL_defined_24 : decode cL_defined 24 = .ok (.aload_n 0, 1) := by decide +kernel
theorem dL_defined_25 : decode cL_defined 25 = .ok (.bipush 20, 2) := by decide +kernel
theorem dL_defined_27 : decode cL_defined 27 = .ok (.dup2, 1) := by decide +kernel
theorem dL_defined_28 : decode cL_defined 28 = .ok (.iaload, 1) := by decide +kernel
theorem dL_defined_29 : decode cL_defined 29 = .ok (.iconst 1, 1) := by decide +kernel
theorem dL_defined_30 : decode cL_defined 30 = .ok (.iadd, 1) := by decide +kernel
theorem dL_defined_31 : decode cL_defined 31 = .ok (.iastore, 1) := by decide +kernel
theorem dL_defined_32 : decode cL_defined 32 = .ok (.aload_n 0, 1) := by decide +kernel
theorem dL_defined_33 : decode cL_defined 33 = .ok (.iload 5, 2) := by decide +kernel
theorem dL_defined_35 : decode cL_defined 35 = .ok (.iconst 1, 1) := by decide +kernel
theorem dL_defined_36 : decode cL_defined 36 = .ok (.iastore, 1) := by decide +kernel
theorem dL_defined_37 : decode cL_defined 37 = .ok (.aload_n 0, 1) := by decide +kernel
theorem dL_defined_38 : decode cL_defined 38 = .ok (.iload 5, 2) := by decide +kernel
theorem dL_defined_40 : decode cL_defined 40 = .ok (.iconst 3, 1) := by decide +kernel
theorem dL_defined_41 : decode cL_defined 41 = .ok (.iadd, 1) := by decide +kernel
theorem dL_defined_42 : decode cL_defined 42 = .ok (.aload_n 0, 1) := by decide +kernel
theorem dL_defined_43 : decode cL_defined 43 = .ok (.bipush 20, 2) := by decide +kernel
theorem dL_defined_45 : decode cL_defined 45 = .ok (.iaload, 1) := by decide +kernel
theorem dL_defined_46 : decode cL_defined 46 = .ok (.iastore, 1) := by decide +kernel
theorem dL_defined_47 : decode cL_defined 47 = .ok (.goto 89, 3) := by decide +kernel
theorem dL_defined_50 : decode cL_defined 50 = .ok (.aload_n 0, 1) := by decide +kernel
theorem dL_defined_51 : decode cL_defined 51 = .ok (.iload 5, 2) := by decide +kernel
theorem dL_defined_53 : decode cL_defined 53 = .ok (.iconst 2, 1) := by decide +kernel
theorem dL_defined_54 : decode cL_defined 54 = .ok (.iadd, 1) := by decide +kernel
theorem dL_defined_55 : decode cL_defined 55 = .ok (.iaload, 1) := by decide +kernel
theorem dL_defined_56 : decode cL_defined 56 = .ok (.iconst 4, 1) := by decide +kernel
theorem dL_defined_57 : decode cL_defined 57 = .ok (.if_icmp .ge 79, 3) := by decide +kernel
theorem dL_defined_60 : decode cL_defined 60 = .ok (.iload 4, 2) := by decide +kernel
theorem dL_defined_62 : decode cL_defined 62 = .ok (.iconst 3, 1) := by decide +kernel
theorem dL_defined_63 : decode cL_defined 63 = .ok (.if_icmp .gt 37, 3) := by decide +kernel
theorem dL_defined_66 : decode cL_defined 66 = .ok (.iload 4, 2) := by decide +kernel
theorem dL_defined_68 : decode cL_defined 68 = .ok (.iconst 2, 1) := by decide +kernel
theorem dL_defined_69 : decode cL_defined 69 = .ok (.idiv, 1) := by decide +kernel
theorem dL_defined_70 : decode cL_defined 70 = .ok (.iconst 2, 1) := by decide +kernel
theorem dL_defined_71 : decode cL_defined 71 = .ok (.irem, 1) := by decide +kernel
theorem dL_defined_72 : decode cL_defined 72 = .ok (.aload_n 0, 1) := by decide +kernel
theorem dL_defined_73 : decode cL_defined 73 = .ok (.iload 5, 2) := by decide +kernel
theorem dL_defined_75 : decode cL_defined 75 = .ok (.iconst 2, 1) := by decide +kernel
theorem dL_defined_76 : decode cL_defined 76 = .ok (.iadd, 1) := by decide +kernel
theorem dL_defined_77 : decode cL_defined 77 = .ok (.iaload, 1) := by decide +kernel
theorem dL_defined_78 : decode cL_defined 78 = .ok (.iconst 2, 1) := by decide +kernel
theorem dL_defined_79 : decode cL_defined 79 = .ok (.idiv, 1) := by decide +kernel
theorem dL_defined_80 : decode cL_defined 80 = .ok (.iconst 2, 1) := by decide +kernel
theorem dL_defined_81 : decode cL_defined 81 = .ok (.irem, 1) := by decide +kernel
theorem dL_defined_82 : decode cL_defined 82 = .ok (.if_icmp .ne 18, 3) := by decide +kernel
theorem dL_defined_85 : decode cL_defined 85 = .ok (.iload 4, 2) := by decide +kernel
theorem dL_defined_87 : decode cL_defined 87 = .ok (.iconst 2, 1) := by decide +kernel
theorem dL_defined_88 : decode cL_defined 88 = .ok (.irem, 1) := by decide +kernel
theorem dL_defined_89 : decode cL_defined 89 = .ok (.aload_n 0, 1) := by decide +kernel
theorem dL_defined_90 : decode cL_defined 90 = .ok (.iload 5, 2) := by decide +kernel
theorem dL_defined_92 : decode cL_defined 92 = .ok (.iconst 2, 1) := by decide +kernel
theorem dL_defined_93 : decode cL_defined 93 = .ok (.iadd, 1) := by decide +kernel
theorem dL_defined_94 : decode cL_defined 94 = .ok (.iaload, 1) := by decide +kernel
theorem dL_defined_95 : decode cL_defined 95 = .ok (.iconst 2, 1) := by decide +kernel
theorem dL_defined_96 : decode cL_defined 96 = .ok (.irem, 1) := by decide +kernel
theorem dL_defined_97 : decode cL_defined 97 = .ok (.if_icmp .le 7, 3) := by decide +kernel
theorem dL_defined_100 : decode cL_defined 100 = .ok (.iconst 1, 1) := by decide +kernel
theorem dL_defined_101 : decode cL_defined 101 = .ok (.goto 4, 3) := by decide +kernel
theorem dL_defined_104 : decode cL_defined 104 = .ok (.iconst 0, 1) := by decide +kernel
theorem dL_defined_105 : decode cL_defined 105 = .ok (.istore 6, 2) := by decide +kernel
theorem dL_defined_107 : decode cL_defined 107 = .ok (.iload 6, 2) := by decide +kernel
theorem dL_defined_109 : decode cL_defined 109 = .ok (.ifCond .ne 24, 3) := by decide +kernel
theorem dL_defined_112 : decode cL_defined 112 = .ok (.aload_n 0, 1) := by decide +kernel
theorem dL_defined_113 : decode cL_defined 113 = .ok (.iload 5, 2) := by decide +kernel
theorem dL_defined_115 : decode cL_defined 115 = .ok (.iconst 2, 1) := by decide +kernel
theorem dL_defined_116 : decode cL_defined 116 = .ok (.iadd, 1) := by decide +kernel
theorem dL_defined_117 : decode cL_defined 117 = .ok (.iaload, 1) := by decide +kernel
theorem dL_defined_118 : decode cL_defined 118 = .ok (.iconst 2, 1) := by decide +kernel
theorem dL_defined_119 : decode cL_defined 119 = .ok (.irem, 1) := by decide +kernel
theorem dL_defined_120 : decode cL_defined 120 = .ok (.ifCond .ne 16, 3) := by decide +kernel
theorem dL_defined_123 : decode cL_defined 123 = .ok (.aload_n 0, 1) := by decide +kernel
theorem dL_defined_124 : decode cL_defined 124 = .ok (.iload 5, 2) := by decide +kernel
theorem dL_defined_126 : decode cL_defined 126 = .ok (.iconst 1, 1) := by decide +kernel
theorem dL_defined_127 : decode cL_defined 127 = .ok (.iadd, 1) := by decide +kernel
theorem dL_defined_128 : decode cL_defined 128 = .ok (.iaload, 1) := by decide +kernel
theorem dL_defined_129 : decode cL_defined 129 = .ok (.iload_n 3, 1) := by decide +kernel
theorem dL_defined_130 : decode cL_defined 130 = .ok (.if_icmp .eq 6, 3) := by decide +kernel
theorem dL_defined_133 : decode cL_defined 133 = .ok (.bipush 110, 2) := by decide +kernel
theorem dL_defined_135 : decode cL_defined 135 = .ok (.ireturn, 1) := by decide +kernel
theorem dL_defined_136 : decode cL_defined 136 = .ok (.aload_n 0, 1) := by decide +kernel
theorem dL_defined_137 : decode cL_defined 137 = .ok (.iload 5, 2) := by decide +kernel
theorem dL_defined_139 : decode cL_defined 139 = .ok (.iconst 1, 1) := by decide +kernel
theorem dL_defined_140 : decode cL_defined 140 = .ok (.iadd, 1) := by decide +kernel
theorem dL_defined_141 : decode cL_defined 141 = .ok (.iload_n 3, 1) := by decide +kernel
theorem dL_defined_142 : decode cL_defined 142 = .ok (.iastore, 1) := by decide +kernel
theorem dL_defined_143 : decode cL_defined 143 = .ok (.aload_n 0, 1) := by decide +kernel
theorem dL_defined_144 : decode cL_defined 144 = .ok (.iload 5, 2) := by decide +kernel
theorem dL_defined_146 : decode cL_defined 146 = .ok (.iconst 2, 1) := by decide +kernel
theorem dL_defined_147 : decode cL_defined 147 = .ok (.iadd, 1) := by decide +kernel
theorem dL_defined_148 : decode cL_defined 148 = .ok (.iload 4, 2) := by decide +kernel
theorem dL_defined_150 : decode cL_defined 150 = .ok (.iastore, 1) := by decide +kernel
theorem dL_defined_151 : decode cL_defined 151 = .ok (.bipush 121, 2) := by decide +kernel
theorem dL_defined_153 : decode cL_defined 153 = .ok (.ireturn, 1) := by decide +kernel
set_option maxRecDepth 20000 in
theorem ggL_found_L_at : GoodIn wsL_found wsL_at := goodIn_r _ [4] (by decide +kernel) (by decide +kernel)
set_option maxRecDepth 20000 in
theorem gL_found_L_at : GoodIn wsL_found (va_wsS RL 81 yL_at wsL_at) := goodIn_app (goodIn_of _ (by decide +kernel)) ggL_found_L_at
theorem dL_found_0 : decode cL_found 0 = .ok (.iload_n 1, 1) := by decide +kernel
theorem dL_found_1 : decode cL_found 1 = .ok (.istore_n 3, 1) := by decide +kernel
theorem dL_found_2 : decode cL_found 2 = .ok (.iload_n 3, 1) := by decide +kernel
theorem dL_found_3 : decode cL_found 3 = .ok (.ifCond .lt 23, 3) := by decide +kernel
theorem dL_found_6 : decode cL_found 6 = .ok (.aload_n 0, 1) := by decide +kernel
theorem dL_found_7 : decode cL_found 7 = .ok (.iload_n 3, 1) := by decide +kernel
theorem dL_found_8 : decode cL_found 8 = .ok (.iload_n 2, 1) := by decide +kernel
theorem dL_found_9 : decode cL_found 9 = .ok (.invokestatic 81, 3) := by decide +kernel
theorem dL_found_12 : decode cL_found 12 = .ok (.iaload, 1) := by decide +kernel
theorem dL_found_13 : decode cL_found 13 = .ok (.ifCond .ne 13, 3) := by decide +kernel
theorem dL_found_16 : decode cL_found 16 = .ok (.aload_n 0, 1) := by decide +kernel
theorem dL_found_17 : decode cL_found 17 = .ok (.bipush 10, 2) := by decide +kernel
theorem dL_found_19 : decode cL_found 19 = .ok (.iload_n 3, 1) := by decide +kernel
theorem dL_found_20 : decode cL_found 20 = .ok (.iadd, 1) := by decide +kernel
theorem dL_found_21 : decode cL_found 21 = .ok (.iaload, 1) := by decide +kernel
theorem dL_found_22 : decode cL_found 22 = .ok (.istore_n 3, 1) := by decide +kernel
theorem dL_found_23 : decode cL_found 23 = .ok (.goto (-21), 3) := by decide +kernel
theorem dL_found_26 : decode cL_found 26 = .ok (.iload_n 3, 1) := by decide +kernel
theorem dL_found_27 : decode cL_found 27 = .ok (.ireturn, 1) := by decide +kernel
set_option maxRecDepth 20000 in
theorem ggL_received_L_at : GoodIn wsL_received wsL_at := goodIn_r _ [4] (by decide +kernel) (by decide +kernel)
set_option maxRecDepth 20000 in
theorem gL_received_L_at : GoodIn wsL_received (va_wsS RL 81 yL_at wsL_at) := goodIn_app (goodIn_of _ (by decide +kernel)) ggL_received_L_at
set_option maxRecDepth 20000 in
theorem ggL_received_L_defined : GoodIn wsL_received wsL_defined := goodIn_ca (goodIn_r _ [7, 1, 2, 3, 4] (by decide +kernel) (by decide +kernel)) (goodIn_sub (fun _ h => List.mem_cons_of_mem _ (List.mem_append_right _ h)) (by decide +kernel))
set_option maxRecDepth 20000 in
theorem gL_received_L_defined : GoodIn wsL_received (va_wsS RL 84 yL_defined wsL_defined) := goodIn_app (goodIn_of _ (by decide +kernel)) ggL_received_L_defined
theorem dL_received_0 : decode cL_received 0 = .ok (.iload_n 1, 1) := by decide +kernel
theorem dL_received_1 : decode cL_received 1 = .ok (.iload_n 2, 1) := by decide +kernel
theorem dL_received_2 : decode cL_received 2 = .ok (.invokestatic 81, 3) := by decide +kernel
theorem dL_received_5 : decode cL_received 5 = .ok (.istore 4, 2) := by decide +kernel
theorem dL_received_7 : decode cL_received 7 = .ok (.aload_n 0, 1) := by decide +kernel
theorem dL_received_8 : decode cL_received 8 = .ok (.iload 4, 2) := by decide +kernel
theorem dL_received_10 : decode cL_received 10 = .ok (.iaload, 1) := by decide +kernel
theorem dL_received_11 : decode cL_received 11 = .ok (.iconst 1, 1) := by decide +kernel
theorem dL_received_12 : decode cL_received 12 = .ok (.if_icmp .ne 17, 3) := by decide +kernel
theorem dL_received_15 : decode cL_received 15 = .ok (.aload_n 0, 1) := by decide +kernel
theorem dL_received_16 : decode cL_received 16 = .ok (.iload 4, 2) := by decide +kernel
theorem dL_received_18 : decode cL_received 18 = .ok (.iconst 2, 1) := by decide +kernel
theorem dL_received_19 : decode cL_received 19 = .ok (.iadd, 1) := by decide +kernel
theorem dL_received_20 : decode cL_received 20 = .ok (.iaload, 1) := by decide +kernel
theorem dL_received_21 : decode cL_received 21 = .ok (.iconst 2, 1) := by decide +kernel
theorem dL_received_22 : decode cL_received 22 = .ok (.irem, 1) := by decide +kernel
theorem dL_received_23 : decode cL_received 23 = .ok (.ifCond .ne 6, 3) := by decide +kernel
theorem dL_received_26 : decode cL_received 26 = .ok (.bipush 110, 2) := by decide +kernel
theorem dL_received_28 : decode cL_received 28 = .ok (.ireturn, 1) := by decide +kernel
theorem dL_received_29 : decode cL_received 29 = .ok (.aload_n 0, 1) := by decide +kernel
theorem dL_received_30 : decode cL_received 30 = .ok (.iload_n 1, 1) := by decide +kernel
theorem dL_received_31 : decode cL_received 31 = .ok (.iload_n 2, 1) := by decide +kernel
theorem dL_received_32 : decode cL_received 32 = .ok (.iload_n 3, 1) := by decide +kernel
theorem dL_received_33 : decode cL_received 33 = .ok (.aload_n 0, 1) := by decide +kernel
theorem dL_received_34 : decode cL_received 34 = .ok (.iload 4, 2) := by decide +kernel
theorem dL_received_36 : decode cL_received 36 = .ok (.iaload, 1) := by decide +kernel
theorem dL_received_37 : decode cL_received 37 = .ok (.iconst 1, 1) := by decide +kernel
theorem dL_received_38 : decode cL_received 38 = .ok (.if_icmp .ne 12, 3) := by decide +kernel
theorem dL_received_41 : decode cL_received 41 = .ok (.aload_n 0, 1) := by decide +kernel
theorem dL_received_42 : decode cL_received 42 = .ok (.iload 4, 2) := by decide +kernel
theorem dL_received_44 : decode cL_received 44 = .ok (.iconst 2, 1) := by decide +kernel
theorem dL_received_45 : decode cL_received 45 = .ok (.iadd, 1) := by decide +kernel
theorem dL_received_46 : decode cL_received 46 = .ok (.iaload, 1) := by decide +kernel
theorem dL_received_47 : decode cL_received 47 = .ok (.goto 5, 3) := by decide +kernel
theorem dL_received_50 : decode cL_received 50 = .ok (.bipush 7, 2) := by decide +kernel
theorem dL_received_52 : decode cL_received 52 = .ok (.invokestatic 84, 3) := by decide +kernel
theorem dL_received_55 : decode cL_received 55 = .ok (.ireturn, 1) := by decide +kernel
set_option maxRecDepth 20000 in
theorem ggL_wasSet_L_plain : GoodIn wsL_wasSet wsL_plain := goodIn_ca (goodIn_r _ [4] (by decide +kernel) (by decide +kernel)) (goodIn_sub (fun _ h => List.mem_cons_of_mem _ (List.mem_append_right _ h)) (by decide +kernel))
set_option maxRecDepth 20000 in
theorem gL_wasSet_L_plain : GoodIn wsL_wasSet (va_wsS RL 88 yL_plain wsL_plain) := goodIn_app (goodIn_of _ (by decide +kernel)) ggL_wasSet_L_plain
set_option maxRecDepth 20000 in
theorem ggL_wasSet_L_at : GoodIn wsL_wasSet wsL_at := goodIn_r _ [7] (by decide +kernel) (by decide +kernel)
set_option maxRecDepth 20000 in
theorem gL_wasSet_L_at : GoodIn wsL_wasSet (va_wsS RL 81 yL_at wsL_at) := goodIn_app (goodIn_of _ (by decide +kernel)) ggL_wasSet_L_at
set_option maxRecDepth 20000 in
theorem ggL_wasSet_L_wasSet : GoodIn wsL_wasSet wsL_wasSet := goodIn_ca (goodIn_r _ [0, 1, 2, 3, 4, 5, 6, 7, 8, 9, 10, 11, 12, 13, 14, 15, 16, 17, 18] (by decide +kernel) (by decide +kernel)) (goodIn_sub (fun _ h => List.mem_cons_of_mem _ (List.mem_append_right _ h)) (by decide +kernel))
set_option maxRecDepth 20000 in
theorem gL_wasSet_L_wasSet : GoodIn wsL_wasSet (va_wsS RL 91 yL_wasSet wsL_wasSet) := goodIn_app (goodIn_of _ (by decide +kernel)) ggL_wasSet_L_wasSet
set_option maxRecDepth 20000 in
theorem ggL_wasSet_L_found : GoodIn wsL_wasSet wsL_found := goodIn_ca (goodIn_r _ [12, 5, 6, 3, 7] (by decide +kernel) (by decide +kernel)) (goodIn_sub (fun _ h => List.mem_cons_of_mem _ (List.mem_append_right _ h)) (by decide +kernel))
set_option maxRecDepth 20000 in
theorem gL_wasSet_L_found : GoodIn wsL_wasSet (va_wsS RL 94 yL_found wsL_found) := goodIn_app (goodIn_of _ (by decide +kernel)) ggL_wasSet_L_found
set_option maxRecDepth 20000 in
theorem ggL_wasSet_L_received : GoodIn wsL_wasSet wsL_received := goodIn_ca (goodIn_r _ [15, 5, 6, 3, 7, 16, 17, 18] (by decide +kernel) (by decide +kernel)) (goodIn_sub (fun _ h => List.mem_cons_of_mem _ (List.mem_append_right _ h)) (by decide +kernel))
set_option maxRecDepth 20000 in
theorem gL_wasSet_L_received : GoodIn wsL_wasSet (va_wsS RL 98 yL_received wsL_received) := goodIn_app (goodIn_of _ (by decide +kernel)) ggL_wasSet_L_received
theorem dL_wasSet_0 : decode cL_wasSet 0 = .ok (.iload_n 1, 1) := by decide +kernel
theorem dL_wasSet_1 : decode cL_wasSet 1 = .ok (.iconst 4, 1) := by decide +kernel
theorem dL_wasSet_2 : decode cL_wasSet 2 = .ok (.if_icmp .le 114, 3) := by decide +kernel
theorem dL_wasSet_5 : decode cL_wasSet 5 = .ok (.aload_n 0, 1) := by decide +kernel
theorem dL_wasSet_6 : decode cL_wasSet 6 = .ok (.iload_n 1, 1) := by decide +kernel
theorem dL_wasSet_7 : decode cL_wasSet 7 = .ok (.invokestatic 88, 3) := by decide +kernel
theorem dL_wasSet_10 : decode cL_wasSet 10 = .ok (.iload_n 2, 1) := by decide +kernel
theorem dL_wasSet_11 : decode cL_wasSet 11 = .ok (.invokestatic 81, 3) := by decide +kernel
theorem dL_wasSet_14 : decode cL_wasSet 14 = .ok (.istore 5, 2) := by decide +kernel
theorem dL_wasSet_16 : decode cL_wasSet 16 = .ok (.aload_n 0, 1) := by decide +kernel
theorem dL_wasSet_17 : decode cL_wasSet 17 = .ok (.bipush 60, 2) := by decide +kernel
theorem dL_wasSet_19 : decode cL_wasSet 19 = .ok (.iconst 4, 1) := by decide +kernel
theorem dL_wasSet_20 : decode cL_wasSet 20 = .ok (.iload_n 1, 1) := by decide +kernel
theorem dL_wasSet_21 : decode cL_wasSet 21 = .ok (.iconst 5, 1) := by decide +kernel
theorem dL_wasSet_22 : decode cL_wasSet 22 = .ok (.isub, 1) := by decide +kernel
theorem dL_wasSet_23 : decode cL_wasSet 23 = .ok (.imul, 1) := by decide +kernel
theorem dL_wasSet_24 : decode cL_wasSet 24 = .ok (.iadd, 1) := by decide +kernel
theorem dL_wasSet_25 : decode cL_wasSet 25 = .ok (.iconst 2, 1) := by decide +kernel
theorem dL_wasSet_26 : decode cL_wasSet 26 = .ok (.iadd, 1) := by decide +kernel
theorem dL_wasSet_27 : decode cL_wasSet 27 = .ok (.iaload, 1) := by decide +kernel
theorem dL_wasSet_28 : decode cL_wasSet 28 = .ok (.iconst 1, 1) := by decide +kernel
theorem dL_wasSet_29 : decode cL_wasSet 29 = .ok (.if_icmp .ne 72, 3) := by decide +kernel
theorem dL_wasSet_32 : decode cL_wasSet 32 = .ok (.aload_n 0, 1) := by decide +kernel
theorem dL_wasSet_33 : decode cL_wasSet 33 = .ok (.iload 5, 2) := by decide +kernel
theorem dL_wasSet_35 : decode cL_wasSet 35 = .ok (.iaload, 1) := by decide +kernel
theorem dL_wasSet_36 : decode cL_wasSet 36 = .ok (.iconst 1, 1) := by decide +kernel
theorem dL_wasSet_37 : decode cL_wasSet 37 = .ok (.if_icmp .ne 28, 3) := by decide +kernel
theorem dL_wasSet_40 : decode cL_wasSet 40 = .ok (.aload_n 0, 1) := by decide +kernel
theorem dL_wasSet_41 : decode cL_wasSet 41 = .ok (.iload 5, 2) := by decide +kernel
theorem dL_wasSet_43 : decode cL_wasSet 43 = .ok (.iconst 2, 1) := by decide +kernel
theorem dL_wasSet_44 : decode cL_wasSet 44 = .ok (.iadd, 1) := by decide +kernel
theorem dL_wasSet_45 : decode cL_wasSet 45 = .ok (.iaload, 1) := by decide +kernel
theorem dL_wasSet_46 : decode cL_wasSet 46 = .ok (.iconst 5, 1) := by decide +kernel
theorem dL_wasSet_47 : decode cL_wasSet 47 = .ok (.iand, 1) := by decide +kernel
theorem dL_wasSet_48 : decode cL_wasSet 48 = .ok (.ifCond .ne 17, 3) := by decide +kernel
theorem dL_wasSet_51 : decode cL_wasSet 51 = .ok (.aload_n 0, 1) := by decide +kernel
theorem dL_wasSet_52 : decode cL_wasSet 52 = .ok (.iload 5, 2) := by decide +kernel
theorem dL_wasSet_54 : decode cL_wasSet 54 = .ok (.iconst 1, 1) := by decide +kernel
theorem dL_wasSet_55 : decode cL_wasSet 55 = .ok (.iadd, 1) := by decide +kernel
theorem dL_wasSet_56 : decode cL_wasSet 56 = .ok (.iaload, 1) := by decide +kernel
theorem dL_wasSet_57 : decode cL_wasSet 57 = .ok (.iload_n 3, 1) := by decide +kernel
theorem dL_wasSet_58 : decode cL_wasSet 58 = .ok (.if_icmp .eq 7, 3) := by decide +kernel
theorem dL_wasSet_61 : decode cL_wasSet 61 = .ok (.iconst 1, 1) := by decide +kernel
theorem dL_wasSet_62 : decode cL_wasSet 62 = .ok (.goto 4, 3) := by decide +kernel
theorem dL_wasSet_65 : decode cL_wasSet 65 = .ok (.iconst 0, 1) := by decide +kernel
theorem dL_wasSet_66 : decode cL_wasSet 66 = .ok (.istore 6, 2) := by decide +kernel
theorem dL_wasSet_68 : decode cL_wasSet 68 = .ok (.aload_n 0, 1) := by decide +kernel
theorem dL_wasSet_69 : decode cL_wasSet 69 = .ok (.bipush 40, 2) := by decide +kernel
theorem dL_wasSet_71 : decode cL_wasSet 71 = .ok (.iconst 4, 1) := by decide +kernel
theorem dL_wasSet_72 : decode cL_wasSet 72 = .ok (.iload_n 1, 1) := by decide +kernel
theorem dL_wasSet_73 : decode cL_wasSet 73 = .ok (.iconst 5, 1) := by decide +kernel
theorem dL_wasSet_74 : decode cL_wasSet 74 = .ok (.isub, 1) := by decide +kernel
theorem dL_wasSet_75 : decode cL_wasSet 75 = .ok (.imul, 1) := by decide +kernel
theorem dL_wasSet_76 : decode cL_wasSet 76 = .ok (.iadd, 1) := by decide +kernel
theorem dL_wasSet_77 : decode cL_wasSet 77 = .ok (.iconst 2, 1) := by decide +kernel
theorem dL_wasSet_78 : decode cL_wasSet 78 = .ok (.iadd, 1) := by decide +kernel
theorem dL_wasSet_79 : decode cL_wasSet 79 = .ok (.iaload, 1) := by decide +kernel
theorem dL_wasSet_80 : decode cL_wasSet 80 = .ok (.ifCond .ne 8, 3) := by decide +kernel
theorem dL_wasSet_83 : decode cL_wasSet 83 = .ok (.bipush 110, 2) := by decide +kernel
theorem dL_wasSet_85 : decode cL_wasSet 85 = .ok (.goto 15, 3) := by decide +kernel
theorem dL_wasSet_88 : decode cL_wasSet 88 = .ok (.iload 6, 2) := by decide +kernel
theorem dL_wasSet_90 : decode cL_wasSet 90 = .ok (.ifCond .eq 8, 3) := by decide +kernel
theorem dL_wasSet_93 : decode cL_wasSet 93 = .ok (.bipush 84, 2) := by decide +kernel
theorem dL_wasSet_95 : decode cL_wasSet 95 = .ok (.goto 5, 3) := by decide +kernel
theorem dL_wasSet_98 : decode cL_wasSet 98 = .ok (.bipush 121, 2) := by decide +kernel
theorem dL_wasSet_100 : decode cL_wasSet 100 = .ok (.ireturn, 1) := by decide +kernel
theorem dL_wasSet_101 : decode cL_wasSet 101 = .ok (.aload_n 0, 1) := by decide +kernel
theorem dL_wasSet_102 : decode cL_wasSet 102 = .ok (.aload_n 0, 1) := by decide +kernel
theorem dL_wasSet_103 : decode cL_wasSet 103 = .ok (.bipush 30, 2) := by decide +kernel
theorem dL_wasSet_105 : decode cL_wasSet 105 = .ok (.iload_n 1, 1) := by decide +kernel
theorem dL_wasSet_106 : decode cL_wasSet 106 = .ok (.iadd, 1) := by decide +kernel
theorem dL_wasSet_107 : decode cL_wasSet 107 = .ok (.iaload, 1) := by decide +kernel
theorem dL_wasSet_108 : decode cL_wasSet 108 = .ok (.iload_n 2, 1) := by decide +kernel
theorem dL_wasSet_109 : decode cL_wasSet 109 = .ok (.iload_n 3, 1) := by decide +kernel
theorem dL_wasSet_110 : decode cL_wasSet 110 = .ok (.iload 4, 2) := by decide +kernel
theorem dL_wasSet_112 : decode cL_wasSet 112 = .ok (.invokestatic 91, 3) := by decide +kernel
theorem dL_wasSet_115 : decode cL_wasSet 115 = .ok (.ireturn, 1) := by decide +kernel
theorem dL_wasSet_116 : decode cL_wasSet 116 = .ok (.aload_n 0, 1) := by decide +kernel
theorem dL_wasSet_117 : decode cL_wasSet 117 = .ok (.iload_n 1, 1) := by decide +kernel
theorem dL_wasSet_118 : decode cL_wasSet 118 = .ok (.iload_n 2, 1) := by decide +kernel
theorem dL_wasSet_119 : decode cL_wasSet 119 = .ok (.invokestatic 94, 3) := by decide +kernel
theorem dL_wasSet_122 : decode cL_wasSet 122 = .ok (.istore 5, 2) := by decide +kernel
theorem dL_wasSet_124 : decode cL_wasSet 124 = .ok (.iload 5, 2) := by decide +kernel
theorem dL_wasSet_126 : decode cL_wasSet 126 = .ok (.ifCond .lt 23, 3) := by decide +kernel
theorem dL_wasSet_129 : decode cL_wasSet 129 = .ok (.aload_n 0, 1) := by decide +kernel
theorem dL_wasSet_130 : decode cL_wasSet 130 = .ok (.iload 5, 2) := by decide +kernel
theorem dL_wasSet_132 : decode cL_wasSet 132 = .ok (.iload_n 2, 1) := by decide +kernel
theorem dL_wasSet_133 : decode cL_wasSet 133 = .ok (.invokestatic 81, 3) := by decide +kernel
theorem dL_wasSet_136 : decode cL_wasSet 136 = .ok (.iconst 2, 1) := by decide +kernel
theorem dL_wasSet_137 : decode cL_wasSet 137 = .ok (.iadd, 1) := by decide +kernel
theorem dL_wasSet_138 : decode cL_wasSet 138 = .ok (.iaload, 1) := by decide +kernel
theorem dL_wasSet_139 : decode cL_wasSet 139 = .ok (.iconst 2, 1) := by decide +kernel
theorem dL_wasSet_140 : decode cL_wasSet 140 = .ok (.irem, 1) := by decide +kernel
theorem dL_wasSet_141 : decode cL_wasSet 141 = .ok (.ifCond .ne 8, 3) := by decide +kernel
theorem dL_wasSet_144 : decode cL_wasSet 144 = .ok (.bipush 110, 2) := by decide +kernel
theorem dL_wasSet_146 : decode cL_wasSet 146 = .ok (.goto 11, 3) := by decide +kernel
theorem dL_wasSet_149 : decode cL_wasSet 149 = .ok (.aload_n 0, 1) := by decide +kernel
theorem dL_wasSet_150 : decode cL_wasSet 150 = .ok (.iload 4, 2) := by decide +kernel
theorem dL_wasSet_152 : decode cL_wasSet 152 = .ok (.iload_n 2, 1) := by decide +kernel
theorem dL_wasSet_153 : decode cL_wasSet 153 = .ok (.iload_n 3, 1) := by decide +kernel
theorem dL_wasSet_154 : decode cL_wasSet 154 = .ok (.invokestatic 98, 3) := by decide +kernel
theorem dL_wasSet_157 : decode cL_wasSet 157 = .ok (.ireturn, 1) := by decide +kernel
set_option maxRecDepth 20000 in
theorem ggL_isKept_L_at : GoodIn wsL_isKept wsL_at := goodIn_r _ [4] (by decide +kernel) (by decide +kernel)
set_option maxRecDepth 20000 in
theorem gL_isKept_L_at : GoodIn wsL_isKept (va_wsS RL 81 yL_at wsL_at) := goodIn_app (goodIn_of _ (by decide +kernel)) ggL_isKept_L_at
theorem dL_isKept_0 : decode cL_isKept 0 = .ok (.aload_n 0, 1) := by decide +kernel
theorem dL_isKept_1 : decode cL_isKept 1 = .ok (.iload_n 1, 1) := by decide +kernel
theorem dL_isKept_2 : decode cL_isKept 2 = .ok (.iload_n 2, 1) := by decide +kernel
theorem dL_isKept_3 : decode cL_isKept 3 = .ok (.invokestatic 81, 3) := by decide +kernel
theorem dL_isKept_6 : decode cL_isKept 6 = .ok (.iaload, 1) := by decide +kernel
theorem dL_isKept_7 : decode cL_isKept 7 = .ok (.iconst 1, 1) := by decide +kernel
theorem dL_isKept_8 : decode cL_isKept 8 = .ok (.if_icmp .ne 27, 3) := by decide +kernel
theorem dL_isKept_11 : decode cL_isKept 11 = .ok (.aload_n 0, 1) := by decide +kernel
theorem dL_isKept_12 : decode cL_isKept 12 = .ok (.iload_n 1, 1) := by decide +kernel
theorem dL_isKept_13 : decode cL_isKept 13 = .ok (.iload_n 2, 1) := by decide +kernel
theorem dL_isKept_14 : decode cL_isKept 14 = .ok (.invokestatic 81, 3) := by decide +kernel
theorem dL_isKept_17 : decode cL_isKept 17 = .ok (.iconst 2, 1) := by decide +kernel
theorem dL_isKept_18 : decode cL_isKept 18 = .ok (.iadd, 1) := by decide +kernel
theorem dL_isKept_19 : decode cL_isKept 19 = .ok (.iaload, 1) := by decide +kernel
theorem dL_isKept_20 : decode cL_isKept 20 = .ok (.iconst 4, 1) := by decide +kernel
theorem dL_isKept_21 : decode cL_isKept 21 = .ok (.if_icmp .lt 10, 3) := by decide +kernel
theorem dL_isKept_24 : decode cL_isKept 24 = .ok (.aload_n 0, 1) := by decide +kernel
theorem dL_isKept_25 : decode cL_isKept 25 = .ok (.iload_n 1, 1) := by decide +kernel
theorem dL_isKept_26 : decode cL_isKept 26 = .ok (.iaload, 1) := by decide +kernel
theorem dL_isKept_27 : decode cL_isKept 27 = .ok (.iconst 1, 1) := by decide +kernel
theorem dL_isKept_28 : decode cL_isKept 28 = .ok (.if_icmp .ne 7, 3) := by decide +kernel
theorem dL_isKept_31 : decode cL_isKept 31 = .ok (.iconst 1, 1) := by decide +kernel
theorem dL_isKept_32 : decode cL_isKept 32 = .ok (.goto 4, 3) := by decide +kernel
theorem dL_isKept_35 : decode cL_isKept 35 = .ok (.iconst 0, 1) := by decide +kernel
theorem dL_isKept_36 : decode cL_isKept 36 = .ok (.ireturn, 1) := by decide +kernel
set_option maxRecDepth 20000 in
theorem ggL_got_L_plain : GoodIn wsL_got wsL_plain := goodIn_ca (goodIn_r _ [5] (by decide +kernel) (by decide +kernel)) (goodIn_sub (fun _ h => List.mem_cons_of_mem _ (List.mem_append_right _ h)) (by decide +kernel))
set_option maxRecDepth 20000 in
theorem gL_got_L_plain : GoodIn wsL_got (va_wsS RL 88 yL_plain wsL_plain) := goodIn_app (goodIn_of _ (by decide +kernel)) ggL_got_L_plain
set_option maxRecDepth 20000 in
theorem ggL_got_L_at : GoodIn wsL_got wsL_at := goodIn_r _ [8] (by decide +kernel) (by decide +kernel)
set_option maxRecDepth 20000 in
theorem gL_got_L_at : GoodIn wsL_got (va_wsS RL 81 yL_at wsL_at) := goodIn_app (goodIn_of _ (by decide +kernel)) ggL_got_L_at
set_option maxRecDepth 20000 in
theorem ggL_got_L_got : GoodIn wsL_got wsL_got := goodIn_ca (goodIn_r _ [0, 1, 2, 3, 4, 5, 6, 7, 8, 9, 10, 11, 12, 13] (by decide +kernel) (by decide +kernel)) (goodIn_sub (fun _ h => List.mem_cons_of_mem _ (List.mem_append_right _ h)) (by decide +kernel))
set_option maxRecDepth 20000 in
theorem gL_got_L_got : GoodIn wsL_got (va_wsS RL 102 yL_got wsL_got) := goodIn_app (goodIn_of _ (by decide +kernel)) ggL_got_L_got
set_option maxRecDepth 20000 in
theorem ggL_got_L_found : GoodIn wsL_got wsL_found := goodIn_ca (goodIn_r _ [13, 6, 7, 4, 8] (by decide +kernel) (by decide +kernel)) (goodIn_sub (fun _ h => List.mem_cons_of_mem _ (List.mem_append_right _ h)) (by decide +kernel))
set_option maxRecDepth 20000 in
theorem gL_got_L_found : GoodIn wsL_got (va_wsS RL 94 yL_found wsL_found) := goodIn_app (goodIn_of _ (by decide +kernel)) ggL_got_L_found
theorem dL_got_0 : decode cL_got 0 = .ok (.iload_n 1, 1) := by decide +kernel
theorem dL_got_1 : decode cL_got 1 = .ok (.iconst 4, 1) := by decide +kernel
theorem dL_got_2 : decode cL_got 2 = .ok (.if_icmp .le 86, 3) := by decide +kernel
theorem dL_got_5 : decode cL_got 5 = .ok (.aload_n 0, 1) := by decide +kernel
theorem dL_got_6 : decode cL_got 6 = .ok (.iload_n 1, 1) := by decide +kernel
theorem dL_got_7 : decode cL_got 7 = .ok (.invokestatic 88, 3) := by decide +kernel
theorem dL_got_10 : decode cL_got 10 = .ok (.iload_n 2, 1) := by decide +kernel
theorem dL_got_11 : decode cL_got 11 = .ok (.invokestatic 81, 3) := by decide +kernel
theorem dL_got_14 : decode cL_got 14 = .ok (.istore_n 3, 1) := by decide +kernel
theorem dL_got_15 : decode cL_got 15 = .ok (.aload_n 0, 1) := by decide +kernel
theorem dL_got_16 : decode cL_got 16 = .ok (.bipush 40, 2) := by decide +kernel
theorem dL_got_18 : decode cL_got 18 = .ok (.iconst 4, 1) := by decide +kernel
theorem dL_got_19 : decode cL_got 19 = .ok (.iload_n 1, 1) := by decide +kernel
theorem dL_got_20 : decode cL_got 20 = .ok (.iconst 5, 1) := by decide +kernel
theorem dL_got_21 : decode cL_got 21 = .ok (.isub, 1) := by decide +kernel
theorem dL_got_22 : decode cL_got 22 = .ok (.imul, 1) := by decide +kernel
theorem dL_got_23 : decode cL_got 23 = .ok (.iadd, 1) := by decide +kernel
theorem dL_got_24 : decode cL_got 24 = .ok (.iaload, 1) := by decide +kernel
theorem dL_got_25 : decode cL_got 25 = .ok (.istore 4, 2) := by decide +kernel
theorem dL_got_27 : decode cL_got 27 = .ok (.aload_n 0, 1) := by decide +kernel
theorem dL_got_28 : decode cL_got 28 = .ok (.bipush 60, 2) := by decide +kernel
theorem dL_got_30 : decode cL_got 30 = .ok (.iconst 4, 1) := by decide +kernel
theorem dL_got_31 : decode cL_got 31 = .ok (.iload_n 1, 1) := by decide +kernel
theorem dL_got_32 : decode cL_got 32 = .ok (.iconst 5, 1) := by decide +kernel
theorem dL_got_33 : decode cL_got 33 = .ok (.isub, 1) := by decide +kernel
theorem dL_got_34 : decode cL_got 34 = .ok (.imul, 1) := by decide +kernel
theorem dL_got_35 : decode cL_got 35 = .ok (.iadd, 1) := by decide +kernel
theorem dL_got_36 : decode cL_got 36 = .ok (.iaload, 1) := by decide +kernel
theorem dL_got_37 : decode cL_got 37 = .ok (.iconst 1, 1) := by decide +kernel
theorem dL_got_38 : decode cL_got 38 = .ok (.if_icmp .ne 38, 3) := by decide +kernel
theorem dL_got_41 : decode cL_got 41 = .ok (.aload_n 0, 1) := by decide +kernel
theorem dL_got_42 : decode cL_got 42 = .ok (.iload_n 3, 1) := by decide +kernel
theorem dL_got_43 : decode cL_got 43 = .ok (.iaload, 1) := by decide +kernel
theorem dL_got_44 : decode cL_got 44 = .ok (.iconst 1, 1) := by decide +kernel
theorem dL_got_45 : decode cL_got 45 = .ok (.if_icmp .ne 28, 3) := by decide +kernel
theorem dL_got_48 : decode cL_got 48 = .ok (.aload_n 0, 1) := by decide +kernel
theorem dL_got_49 : decode cL_got 49 = .ok (.iload_n 3, 1) := by decide +kernel
theorem dL_got_50 : decode cL_got 50 = .ok (.iconst 2, 1) := by decide +kernel
theorem dL_got_51 : decode cL_got 51 = .ok (.iadd, 1) := by decide +kernel
theorem dL_got_52 : decode cL_got 52 = .ok (.iaload, 1) := by decide +kernel
theorem dL_got_53 : decode cL_got 53 = .ok (.iconst 5, 1) := by decide +kernel
theorem dL_got_54 : decode cL_got 54 = .ok (.iand, 1) := by decide +kernel
theorem dL_got_55 : decode cL_got 55 = .ok (.ifCond .ne 18, 3) := by decide +kernel
theorem dL_got_58 : decode cL_got 58 = .ok (.aload_n 0, 1) := by decide +kernel
theorem dL_got_59 : decode cL_got 59 = .ok (.iload_n 3, 1) := by decide +kernel
theorem dL_got_60 : decode cL_got 60 = .ok (.iconst 1, 1) := by decide +kernel
theorem dL_got_61 : decode cL_got 61 = .ok (.iadd, 1) := by decide +kernel
theorem dL_got_62 : decode cL_got 62 = .ok (.iaload, 1) := by decide +kernel
theorem dL_got_63 : decode cL_got 63 = .ok (.iload 4, 2) := by decide +kernel
theorem dL_got_65 : decode cL_got 65 = .ok (.if_icmp .eq 8, 3) := by decide +kernel
theorem dL_got_68 : decode cL_got 68 = .ok (.ldc 20, 2) := by decide +kernel
theorem dL_got_70 : decode cL_got 70 = .ok (.goto 5, 3) := by decide +kernel
theorem dL_got_73 : decode cL_got 73 = .ok (.iload 4, 2) := by decide +kernel
theorem dL_got_75 : decode cL_got 75 = .ok (.ireturn, 1) := by decide +kernel
theorem dL_got_76 : decode cL_got 76 = .ok (.aload_n 0, 1) := by decide +kernel
theorem dL_got_77 : decode cL_got 77 = .ok (.aload_n 0, 1) := by decide +kernel
theorem dL_got_78 : decode cL_got 78 = .ok (.bipush 30, 2) := by decide +kernel
theorem dL_got_80 : decode cL_got 80 = .ok (.iload_n 1, 1) := by decide +kernel
theorem dL_got_81 : decode cL_got 81 = .ok (.iadd, 1) := by decide +kernel
theorem dL_got_82 : decode cL_got 82 = .ok (.iaload, 1) := by decide +kernel
theorem dL_got_83 : decode cL_got 83 = .ok (.iload_n 2, 1) := by decide +kernel
theorem dL_got_84 : decode cL_got 84 = .ok (.invokestatic 102, 3) := by decide +kernel
theorem dL_got_87 : decode cL_got 87 = .ok (.ireturn, 1) := by decide +kernel
theorem dL_got_88 : decode cL_got 88 = .ok (.aload_n 0, 1) := by decide +kernel
theorem dL_got_89 : decode cL_got 89 = .ok (.iload_n 1, 1) := by decide +kernel
theorem dL_got_90 : decode cL_got 90 = .ok (.iload_n 2, 1) := by decide +kernel
theorem dL_got_91 : decode cL_got 91 = .ok (.invokestatic 94, 3) := by decide +kernel
theorem dL_got_94 : decode cL_got 94 = .ok (.istore_n 3, 1) := by decide +kernel
theorem dL_got_95 : decode cL_got 95 = .ok (.iload_n 3, 1) := by decide +kernel
theorem dL_got_96 : decode cL_got 96 = .ok (.ifCond .ge 7, 3) := by decide +kernel
theorem dL_got_99 : decode cL_got 99 = .ok (.iconst 0, 1) := by decide +kernel
theorem dL_got_100 : decode cL_got 100 = .ok (.goto 12, 3) := by decide +kernel
theorem dL_got_103 : decode cL_got 103 = .ok (.aload_n 0, 1) := by decide +kernel
theorem dL_got_104 : decode cL_got 104 = .ok (.iload_n 3, 1) := by decide +kernel
theorem dL_got_105 : decode cL_got 105 = .ok (.iload_n 2, 1) := by decide +kernel
theorem dL_got_106 : decode cL_got 106 = .ok (.invokestatic 81, 3) := by decide +kernel
theorem dL_got_109 : decode cL_got 109 = .ok (.iconst 1, 1) := by decide +kernel
theorem dL_got_110 : decode cL_got 110 = .ok (.iadd, 1) := by decide +kernel
theorem dL_got_111 : decode cL_got 111 = .ok (.iaload, 1) := by decide +kernel
theorem dL_got_112 : decode cL_got 112 = .ok (.ireturn, 1) := by decide +kernel
set_option maxRecDepth 20000 in
theorem ggL_asked_L_plain : GoodIn wsL_asked wsL_plain := goodIn_ca (goodIn_r _ [4] (by decide +kernel) (by decide +kernel)) (goodIn_sub (fun _ h => List.mem_cons_of_mem _ (List.mem_append_right _ h)) (by decide +kernel))
set_option maxRecDepth 20000 in
theorem gL_asked_L_plain : GoodIn wsL_asked (va_wsS RL 88 yL_plain wsL_plain) := goodIn_app (goodIn_of _ (by decide +kernel)) ggL_asked_L_plain
set_option maxRecDepth 20000 in
theorem ggL_asked_L_isKept : GoodIn wsL_asked wsL_isKept := goodIn_ca (goodIn_r _ [7, 8, 9, 3, 10] (by decide +kernel) (by decide +kernel)) (goodIn_sub (fun _ h => List.mem_cons_of_mem _ (List.mem_append_right _ h)) (by decide +kernel))
set_option maxRecDepth 20000 in
theorem gL_asked_L_isKept : GoodIn wsL_asked (va_wsS RL 105 yL_isKept wsL_isKept) := goodIn_app (goodIn_of _ (by decide +kernel)) ggL_asked_L_isKept
set_option maxRecDepth 20000 in
theorem ggL_asked_L_asked : GoodIn wsL_asked wsL_asked := goodIn_ca (goodIn_r _ [0, 1, 2, 3, 4, 5, 6, 7, 8, 9, 10, 11, 12, 13, 14, 15] (by decide +kernel) (by decide +kernel)) (goodIn_sub (fun _ h => List.mem_cons_of_mem _ (List.mem_append_right _ h)) (by decide +kernel))
set_option maxRecDepth 20000 in
theorem gL_asked_L_asked : GoodIn wsL_asked (va_wsS RL 109 yL_asked wsL_asked) := goodIn_app (goodIn_of _ (by decide +kernel)) ggL_asked_L_asked
set_option maxRecDepth 20000 in
theorem ggL_asked_L_found : GoodIn wsL_asked wsL_found := goodIn_ca (goodIn_r _ [15, 8, 9, 3, 10] (by decide +kernel) (by decide +kernel)) (goodIn_sub (fun _ h => List.mem_cons_of_mem _ (List.mem_append_right _ h)) (by decide +kernel))
set_option maxRecDepth 20000 in
theorem gL_asked_L_found : GoodIn wsL_asked (va_wsS RL 94 yL_found wsL_found) := goodIn_app (goodIn_of _ (by decide +kernel)) ggL_asked_L_found
theorem dL_asked_0 : decode cL_asked 0 = .ok (.iload_n 1, 1) := by decide +kernel
theorem dL_asked_1 : decode cL_asked 1 = .ok (.iconst 4, 1) := by decide +kernel
theorem dL_asked_2 : decode cL_asked 2 = .ok (.if_icmp .le 83, 3) := by decide +kernel
theorem dL_asked_5 : decode cL_asked 5 = .ok (.aload_n 0, 1) := by decide +kernel
theorem dL_asked_6 : decode cL_asked 6 = .ok (.bipush 60, 2) := by decide +kernel
theorem dL_asked_8 : decode cL_asked 8 = .ok (.iconst 4, 1) := by decide +kernel
theorem dL_asked_9 : decode cL_asked 9 = .ok (.iload_n 1, 1) := by decide +kernel
theorem dL_asked_10 : decode cL_asked 10 = .ok (.iconst 5, 1) := by decide +kernel
theorem dL_asked_11 : decode cL_asked 11 = .ok (.isub, 1) := by decide +kernel
theorem dL_asked_12 : decode cL_asked 12 = .ok (.imul, 1) := by decide +kernel
theorem dL_asked_13 : decode cL_asked 13 = .ok (.iadd, 1) := by decide +kernel
theorem dL_asked_14 : decode cL_asked 14 = .ok (.iconst 1, 1) := by decide +kernel
theorem dL_asked_15 : decode cL_asked 15 = .ok (.iadd, 1) := by decide +kernel
theorem dL_asked_16 : decode cL_asked 16 = .ok (.iaload, 1) := by decide +kernel
theorem dL_asked_17 : decode cL_asked 17 = .ok (.iconst 1, 1) := by decide +kernel
theorem dL_asked_18 : decode cL_asked 18 = .ok (.if_icmp .ne 55, 3) := by decide +kernel
theorem dL_asked_21 : decode cL_asked 21 = .ok (.aload_n 0, 1) := by decide +kernel
theorem dL_asked_22 : decode cL_asked 22 = .ok (.bipush 40, 2) := by decide +kernel
theorem dL_asked_24 : decode cL_asked 24 = .ok (.iconst 4, 1) := by decide +kernel
theorem dL_asked_25 : decode cL_asked 25 = .ok (.iload_n 1, 1) := by decide +kernel
theorem dL_asked_26 : decode cL_asked 26 = .ok (.iconst 5, 1) := by decide +kernel
theorem dL_asked_27 : decode cL_asked 27 = .ok (.isub, 1) := by decide +kernel
theorem dL_asked_28 : decode cL_asked 28 = .ok (.imul, 1) := by decide +kernel
theorem dL_asked_29 : decode cL_asked 29 = .ok (.iadd, 1) := by decide +kernel
theorem dL_asked_30 : decode cL_asked 30 = .ok (.iconst 1, 1) := by decide +kernel
theorem dL_asked_31 : decode cL_asked 31 = .ok (.iadd, 1) := by decide +kernel
theorem dL_asked_32 : decode cL_asked 32 = .ok (.iaload, 1) := by decide +kernel
theorem dL_asked_33 : decode cL_asked 33 = .ok (.iconst 1, 1) := by decide +kernel
theorem dL_asked_34 : decode cL_asked 34 = .ok (.if_icmp .ne 7, 3) := by decide +kernel
theorem dL_asked_37 : decode cL_asked 37 = .ok (.iconst 1, 1) := by decide +kernel
theorem dL_asked_38 : decode cL_asked 38 = .ok (.goto 4, 3) := by decide +kernel
theorem dL_asked_41 : decode cL_asked 41 = .ok (.iconst 0, 1) := by decide +kernel
theorem dL_asked_42 : decode cL_asked 42 = .ok (.istore_n 3, 1) := by decide +kernel
theorem dL_asked_43 : decode cL_asked 43 = .ok (.iload_n 3, 1) := by decide +kernel
theorem dL_asked_44 : decode cL_asked 44 = .ok (.ifCond .eq 8, 3) := by decide +kernel
theorem dL_asked_47 : decode cL_asked 47 = .ok (.bipush 121, 2) := by decide +kernel
theorem dL_asked_49 : decode cL_asked 49 = .ok (.goto 23, 3) := by decide +kernel
theorem dL_asked_52 : decode cL_asked 52 = .ok (.aload_n 0, 1) := by decide +kernel
theorem dL_asked_53 : decode cL_asked 53 = .ok (.aload_n 0, 1) := by decide +kernel
theorem dL_asked_54 : decode cL_asked 54 = .ok (.iload_n 1, 1) := by decide +kernel
theorem dL_asked_55 : decode cL_asked 55 = .ok (.invokestatic 88, 3) := by decide +kernel
theorem dL_asked_58 : decode cL_asked 58 = .ok (.iload_n 2, 1) := by decide +kernel
theorem dL_asked_59 : decode cL_asked 59 = .ok (.invokestatic 105, 3) := by decide +kernel
theorem dL_asked_62 : decode cL_asked 62 = .ok (.ifCond .eq 8, 3) := by decide +kernel
theorem dL_asked_65 : decode cL_asked 65 = .ok (.bipush 84, 2) := by decide +kernel
theorem dL_asked_67 : decode cL_asked 67 = .ok (.goto 5, 3) := by decide +kernel
theorem dL_asked_70 : decode cL_asked 70 = .ok (.bipush 110, 2) := by decide +kernel
theorem dL_asked_72 : decode cL_asked 72 = .ok (.ireturn, 1) := by decide +kernel
theorem dL_asked_73 : decode cL_asked 73 = .ok (.aload_n 0, 1) := by decide +kernel
theorem dL_asked_74 : decode cL_asked 74 = .ok (.aload_n 0, 1) := by decide +kernel
theorem dL_asked_75 : decode cL_asked 75 = .ok (.bipush 30, 2) := by decide +kernel
theorem dL_asked_77 : decode cL_asked 77 = .ok (.iload_n 1, 1) := by decide +kernel
theorem dL_asked_78 : decode cL_asked 78 = .ok (.iadd, 1) := by decide +kernel
theorem dL_asked_79 : decode cL_asked 79 = .ok (.iaload, 1) := by decide +kernel
theorem dL_asked_80 : decode cL_asked 80 = .ok (.iload_n 2, 1) := by decide +kernel
theorem dL_asked_81 : decode cL_asked 81 = .ok (.invokestatic 109, 3) := by decide +kernel
theorem dL_asked_84 : decode cL_asked 84 = .ok (.ireturn, 1) := by decide +kernel
theorem dL_asked_85 : decode cL_asked 85 = .ok (.aload_n 0, 1) := by decide +kernel
theorem dL_asked_86 : decode cL_asked 86 = .ok (.iload_n 1, 1) := by decide +kernel
theorem dL_asked_87 : decode cL_asked 87 = .ok (.iload_n 2, 1) := by decide +kernel
theorem dL_asked_88 : decode cL_asked 88 = .ok (.invokestatic 94, 3) := by decide +kernel
theorem dL_asked_91 : decode cL_asked 91 = .ok (.ifCond .ge 8, 3) := by decide +kernel
theorem dL_asked_94 : decode cL_asked 94 = .ok (.bipush 110, 2) := by decide +kernel
theorem dL_asked_96 : decode cL_asked 96 = .ok (.goto 5, 3) := by decide +kernel
theorem dL_asked_99 : decode cL_asked 99 = .ok (.bipush 121, 2) := by decide +kernel
theorem dL_asked_101 : decode cL_asked 101 = .ok (.ireturn, 1) := by decide +kernel
set_option maxRecDepth 20000 in
theorem ggL_gone_L_plain : GoodIn wsL_gone wsL_plain := goodIn_ca (goodIn_r _ [4] (by decide +kernel) (by decide +kernel)) (goodIn_sub (fun _ h => List.mem_cons_of_mem _ (List.mem_append_right _ h)) (by decide +kernel))
set_option maxRecDepth 20000 in
theorem gL_gone_L_plain : GoodIn wsL_gone (va_wsS RL 88 yL_plain wsL_plain) := goodIn_app (goodIn_of _ (by decide +kernel)) ggL_gone_L_plain
set_option maxRecDepth 20000 in
theorem ggL_gone_L_isKept : GoodIn wsL_gone wsL_isKept := goodIn_ca (goodIn_r _ [7, 8, 9, 3, 10] (by decide +kernel) (by decide +kernel)) (goodIn_sub (fun _ h => List.mem_cons_of_mem _ (List.mem_append_right _ h)) (by decide +kernel))
set_option maxRecDepth 20000 in
theorem gL_gone_L_isKept : GoodIn wsL_gone (va_wsS RL 105 yL_isKept wsL_isKept) := goodIn_app (goodIn_of _ (by decide +kernel)) ggL_gone_L_isKept
set_option maxRecDepth 20000 in
theorem ggL_gone_L_gone : GoodIn wsL_gone wsL_gone := goodIn_ca (goodIn_r _ [0, 1, 2, 3, 4, 5, 6, 7, 8, 9, 10, 11, 12] (by decide +kernel) (by decide +kernel)) (goodIn_sub (fun _ h => List.mem_cons_of_mem _ (List.mem_append_right _ h)) (by decide +kernel))
set_option maxRecDepth 20000 in
theorem gL_gone_L_gone : GoodIn wsL_gone (va_wsS RL 112 yL_gone wsL_gone) := goodIn_app (goodIn_of _ (by decide +kernel)) ggL_gone_L_gone
set_option maxRecDepth 20000 in
theorem ggL_gone_L_at : GoodIn wsL_gone wsL_at := goodIn_r _ [10] (by decide +kernel) (by decide +kernel)
set_option maxRecDepth 20000 in
theorem gL_gone_L_at : GoodIn wsL_gone (va_wsS RL 81 yL_at wsL_at) := goodIn_app (goodIn_of _ (by decide +kernel)) ggL_gone_L_at
theorem dL_gone_0 : decode cL_gone 0 = .ok (.iload_n 1, 1) := by decide +kernel
theorem dL_gone_1 : decode cL_gone 1 = .ok (.iconst 4, 1) := by decide +kernel
theorem dL_gone_2 : decode cL_gone 2 = .ok (.if_icmp .le 83, 3) := by decide +kernel
theorem dL_gone_5 : decode cL_gone 5 = .ok (.aload_n 0, 1) := by decide +kernel
theorem dL_gone_6 : decode cL_gone 6 = .ok (.bipush 60, 2) := by decide +kernel
theorem dL_gone_8 : decode cL_gone 8 = .ok (.iconst 4, 1) := by decide +kernel
theorem dL_gone_9 : decode cL_gone 9 = .ok (.iload_n 1, 1) := by decide +kernel
theorem dL_gone_10 : decode cL_gone 10 = .ok (.iconst 5, 1) := by decide +kernel
theorem dL_gone_11 : decode cL_gone 11 = .ok (.isub, 1) := by decide +kernel
theorem dL_gone_12 : decode cL_gone 12 = .ok (.imul, 1) := by decide +kernel
theorem dL_gone_13 : decode cL_gone 13 = .ok (.iadd, 1) := by decide +kernel
theorem dL_gone_14 : decode cL_gone 14 = .ok (.iconst 3, 1) := by decide +kernel
theorem dL_gone_15 : decode cL_gone 15 = .ok (.iadd, 1) := by decide +kernel
theorem dL_gone_16 : decode cL_gone 16 = .ok (.iaload, 1) := by decide +kernel
theorem dL_gone_17 : decode cL_gone 17 = .ok (.iconst 1, 1) := by decide +kernel
theorem dL_gone_18 : decode cL_gone 18 = .ok (.if_icmp .ne 55, 3) := by decide +kernel
theorem dL_gone_21 : decode cL_gone 21 = .ok (.aload_n 0, 1) := by decide +kernel
theorem dL_gone_22 : decode cL_gone 22 = .ok (.bipush 40, 2) := by decide +kernel
theorem dL_gone_24 : decode cL_gone 24 = .ok (.iconst 4, 1) := by decide +kernel
theorem dL_gone_25 : decode cL_gone 25 = .ok (.iload_n 1, 1) := by decide +kernel
theorem dL_gone_26 : decode cL_gone 26 = .ok (.iconst 5, 1) := by decide +kernel
theorem dL_gone_27 : decode cL_gone 27 = .ok (.isub, 1) := by decide +kernel
theorem dL_gone_28 : decode cL_gone 28 = .ok (.imul, 1) := by decide +kernel
theorem dL_gone_29 : decode cL_gone 29 = .ok (.iadd, 1) := by decide +kernel
theorem dL_gone_30 : decode cL_gone 30 = .ok (.iconst 3, 1) := by decide +kernel
theorem dL_gone_31 : decode cL_gone 31 = .ok (.iadd, 1) := by decide +kernel
theorem dL_gone_32 : decode cL_gone 32 = .ok (.iaload, 1) := by decide +kernel
theorem dL_gone_33 : decode cL_gone 33 = .ok (.iconst 1, 1) := by decide +kernel
theorem dL_gone_34 : decode cL_gone 34 = .ok (.if_icmp .ne 7, 3) := by decide +kernel
theorem dL_gone_37 : decode cL_gone 37 = .ok (.iconst 1, 1) := by decide +kernel
theorem dL_gone_38 : decode cL_gone 38 = .ok (.goto 4, 3) := by decide +kernel
theorem dL_gone_41 : decode cL_gone 41 = .ok (.iconst 0, 1) := by decide +kernel
theorem dL_gone_42 : decode cL_gone 42 = .ok (.istore_n 3, 1) := by decide +kernel
theorem dL_gone_43 : decode cL_gone 43 = .ok (.iload_n 3, 1) := by decide +kernel
theorem dL_gone_44 : decode cL_gone 44 = .ok (.ifCond .ne 8, 3) := by decide +kernel
theorem dL_gone_47 : decode cL_gone 47 = .ok (.bipush 110, 2) := by decide +kernel
theorem dL_gone_49 : decode cL_gone 49 = .ok (.goto 23, 3) := by decide +kernel
theorem dL_gone_52 : decode cL_gone 52 = .ok (.aload_n 0, 1) := by decide +kernel
theorem dL_gone_53 : decode cL_gone 53 = .ok (.aload_n 0, 1) := by decide +kernel
theorem dL_gone_54 : decode cL_gone 54 = .ok (.iload_n 1, 1) := by decide +kernel
theorem dL_gone_55 : decode cL_gone 55 = .ok (.invokestatic 88, 3) := by decide +kernel
theorem dL_gone_58 : decode cL_gone 58 = .ok (.iload_n 2, 1) := by decide +kernel
theorem dL_gone_59 : decode cL_gone 59 = .ok (.invokestatic 105, 3) := by decide +kernel
theorem dL_gone_62 : decode cL_gone 62 = .ok (.ifCond .eq 8, 3) := by decide +kernel
theorem dL_gone_65 : decode cL_gone 65 = .ok (.bipush 84, 2) := by decide +kernel
theorem dL_gone_67 : decode cL_gone 67 = .ok (.goto 5, 3) := by decide +kernel
theorem dL_gone_70 : decode cL_gone 70 = .ok (.bipush 121, 2) := by decide +kernel
theorem dL_gone_72 : decode cL_gone 72 = .ok (.ireturn, 1) := by decide +kernel
theorem dL_gone_73 : decode cL_gone 73 = .ok (.aload_n 0, 1) := by decide +kernel
theorem dL_gone_74 : decode cL_gone 74 = .ok (.aload_n 0, 1) := by decide +kernel
theorem dL_gone_75 : decode cL_gone 75 = .ok (.bipush 30, 2) := by decide +kernel
theorem dL_gone_77 : decode cL_gone 77 = .ok (.iload_n 1, 1) := by decide +kernel
theorem dL_gone_78 : decode cL_gone 78 = .ok (.iadd, 1) := by decide +kernel
theorem dL_gone_79 : decode cL_gone 79 = .ok (.iaload, 1) := by decide +kernel
theorem dL_gone_80 : decode cL_gone 80 = .ok (.iload_n 2, 1) := by decide +kernel
theorem dL_gone_81 : decode cL_gone 81 = .ok (.invokestatic 112, 3) := by decide +kernel
theorem dL_gone_84 : decode cL_gone 84 = .ok (.ireturn, 1) := by decide +kernel
theorem dL_gone_85 : decode cL_gone 85 = .ok (.iload_n 1, 1) := by decide +kernel
theorem dL_gone_86 : decode cL_gone 86 = .ok (.iload_n 2, 1) := by decide +kernel
theorem dL_gone_87 : decode cL_gone 87 = .ok (.invokestatic 81, 3) := by decide +kernel
theorem dL_gone_90 : decode cL_gone 90 = .ok (.istore_n 3, 1) := by decide +kernel
theorem dL_gone_91 : decode cL_gone 91 = .ok (.aload_n 0, 1) := by decide +kernel
theorem dL_gone_92 : decode cL_gone 92 = .ok (.iload_n 3, 1) := by decide +kernel
theorem dL_gone_93 : decode cL_gone 93 = .ok (.iaload, 1) := by decide +kernel
theorem dL_gone_94 : decode cL_gone 94 = .ok (.iconst 1, 1) := by decide +kernel
theorem dL_gone_95 : decode cL_gone 95 = .ok (.if_icmp .ne 16, 3) := by decide +kernel
theorem dL_gone_98 : decode cL_gone 98 = .ok (.aload_n 0, 1) := by decide +kernel
theorem dL_gone_99 : decode cL_gone 99 = .ok (.iload_n 3, 1) := by decide +kernel
theorem dL_gone_100 : decode cL_gone 100 = .ok (.iconst 2, 1) := by decide +kernel
theorem dL_gone_101 : decode cL_gone 101 = .ok (.iadd, 1) := by decide +kernel
theorem dL_gone_102 : decode cL_gone 102 = .ok (.iaload, 1) := by decide +kernel
theorem dL_gone_103 : decode cL_gone 103 = .ok (.iconst 4, 1) := by decide +kernel
theorem dL_gone_104 : decode cL_gone 104 = .ok (.if_icmp .ge 7, 3) := by decide +kernel
theorem dL_gone_107 : decode cL_gone 107 = .ok (.iconst 1, 1) := by decide +kernel
theorem dL_gone_108 : decode cL_gone 108 = .ok (.goto 4, 3) := by decide +kernel
theorem dL_gone_111 : decode cL_gone 111 = .ok (.iconst 0, 1) := by decide +kernel
theorem dL_gone_112 : decode cL_gone 112 = .ok (.istore 4, 2) := by decide +kernel
theorem dL_gone_114 : decode cL_gone 114 = .ok (.aload_n 0, 1) := by decide +kernel
theorem dL_gone_115 : decode cL_gone 115 = .ok (.iload_n 3, 1) := by decide +kernel
theorem dL_gone_116 : decode cL_gone 116 = .ok (.iload 4, 2) := by decide +kernel
theorem dL_gone_118 : decode cL_gone 118 = .ok (.ifCond .eq 7, 3) := by decide +kernel
theorem dL_gone_121 : decode cL_gone 121 = .ok (.iconst 1, 1) := by decide +kernel
theorem dL_gone_122 : decode cL_gone 122 = .ok (.goto 4, 3) := by decide +kernel
theorem dL_gone_125 : decode cL_gone 125 = .ok (.iconst 0, 1) := by decide +kernel
theorem dL_gone_126 : decode cL_gone 126 = .ok (.iastore, 1) := by decide +kernel
theorem dL_gone_127 : decode cL_gone 127 = .ok (.iload 4, 2) := by decide +kernel
theorem dL_gone_129 : decode cL_gone 129 = .ok (.ifCond .eq 8, 3) := by decide +kernel
theorem dL_gone_132 : decode cL_gone 132 = .ok (.bipush 110, 2) := by decide +kernel
theorem dL_gone_134 : decode cL_gone 134 = .ok (.goto 5, 3) := by decide +kernel
theorem dL_gone_137 : decode cL_gone 137 = .ok (.bipush 121, 2) := by decide +kernel
theorem dL_gone_139 : decode cL_gone 139 = .ok (.ireturn, 1) := by decide +kernel
set_option maxRecDepth 20000 in
theorem ggL_areKeys_L_plain : GoodIn wsL_areKeys wsL_plain := goodIn_ca (goodIn_r _ [5] (by decide +kernel) (by decide +kernel)) (goodIn_sub (fun _ h => List.mem_cons_of_mem _ (List.mem_append_left _ (List.mem_append_left _ (List.mem_append_left _ (List.mem_append_right _ h))))) (by decide +kernel))
set_option maxRecDepth 20000 in
theorem gL_areKeys_L_plain : GoodIn wsL_areKeys (va_wsS RL 88 yL_plain wsL_plain) := goodIn_app (goodIn_of _ (by decide +kernel)) ggL_areKeys_L_plain
set_option maxRecDepth 20000 in
theorem ggL_areKeys_L_at : GoodIn wsL_areKeys wsL_at := goodIn_r _ [8] (by decide +kernel) (by decide +kernel)
set_option maxRecDepth 20000 in
theorem gL_areKeys_L_at : GoodIn wsL_areKeys (va_wsS RL 81 yL_at wsL_at) := goodIn_app (goodIn_of _ (by decide +kernel)) ggL_areKeys_L_at
set_option maxRecDepth 20000 in
theorem ggL_areKeys_L_keyAt : GoodIn wsL_areKeys wsL_keyAt := goodIn_ca (goodIn_ca (goodIn_ca (goodIn_ca (goodIn_r _ [11, 12, 13, 14, 15, 16, 1, 17, 18, 19, 20, 21, 22, 23, 24, 25, 26, 27, 28, 29, 30, 31, 32, 33, 34, 35, 36, 37, 38, 39, 40, 41, 42, 43, 44, 45, 46, 47, 48, 49, 50, 51, 52, 53, 77, 78, 79, 80, 81, 82, 83, 84, 85, 86, 87, 88, 89, 90, 91] (by decide +kernel) (by decide +kernel)) (goodIn_sub (fun _ h => List.mem_cons_of_mem _ (List.mem_append_left _ (List.mem_append_left _ (List.mem_append_right _ h)))) (by decide +kernel))) (goodIn_sub (fun _ h => List.mem_cons_of_mem _ (List.mem_append_left _ (List.mem_append_right _ h))) (by decide +kernel))) (goodIn_sub (fun _ h => List.mem_cons_of_mem _ (List.mem_append_right _ h)) (by decide +kernel))) (goodIn_sub (fun _ h => List.mem_cons_of_mem _ (List.mem_append_left _ (List.mem_append_left _ (List.mem_append_left _ (List.mem_append_right _ h))))) (by decide +kernel))
set_option maxRecDepth 20000 in
theorem gL_areKeys_L_keyAt : GoodIn wsL_areKeys (va_wsS RL 115 yL_keyAt wsL_keyAt) := goodIn_app (goodIn_of _ (by decide +kernel)) ggL_areKeys_L_keyAt
set_option maxRecDepth 20000 in
theorem ggL_areKeys_L_rights : GoodIn wsL_areKeys wsL_rights := goodIn_ca (goodIn_ca (goodIn_ca (goodIn_ca (goodIn_r _ [56, 12, 13, 14, 15, 16, 1, 57, 58, 59, 20, 60, 22, 23, 24, 25, 26, 27, 28, 29, 30, 31, 32, 33, 34, 35, 61, 62, 63, 36, 37, 38, 39, 40, 41, 42, 43, 44, 45, 46, 47, 64, 65, 66, 67, 68, 77, 78, 79, 80, 81, 82, 83, 84, 85, 86, 87, 88, 89, 90, 91] (by decide +kernel) (by decide +kernel)) (goodIn_sub (fun _ h => List.mem_cons_of_mem _ (List.mem_append_left _ (List.mem_append_left _ (List.mem_append_right _ h)))) (by decide +kernel))) (goodIn_sub (fun _ h => List.mem_cons_of_mem _ (List.mem_append_left _ (List.mem_append_right _ h))) (by decide +kernel))) (goodIn_sub (fun _ h => List.mem_cons_of_mem _ (List.mem_append_right _ h)) (by decide +kernel))) (goodIn_sub (fun _ h => List.mem_cons_of_mem _ (List.mem_append_left _ (List.mem_append_left _ (List.mem_append_left _ (List.mem_append_right _ h))))) (by decide +kernel))
set_option maxRecDepth 20000 in
theorem gL_areKeys_L_rights : GoodIn wsL_areKeys (va_wsS RL 118 yL_rights wsL_rights) := goodIn_app (goodIn_of _ (by decide +kernel)) ggL_areKeys_L_rights
set_option maxRecDepth 20000 in
theorem ggL_areKeys_L_keys : GoodIn wsL_areKeys wsL_keys := goodIn_ca (goodIn_ca (goodIn_r _ [71, 12, 13, 15, 16, 72, 73, 74, 20, 75, 22, 23, 24, 25, 28, 76, 29, 30, 31, 32, 33, 34, 35, 36, 37, 38, 39, 40, 41, 42, 43, 44, 45, 46, 47, 77, 78, 79, 80, 83, 84, 85, 86, 87, 88, 89, 90, 91, 81, 82] (by decide +kernel) (by decide +kernel)) (goodIn_sub (fun _ h => List.mem_cons_of_mem _ (List.mem_append_left _ (List.mem_append_left _ (List.mem_append_right _ h)))) (by decide +kernel))) (goodIn_sub (fun _ h => List.mem_cons_of_mem _ (List.mem_append_left _ (List.mem_append_right _ h))) (by decide +kernel))
set_option maxRecDepth 20000 in
theorem gL_areKeys_L_keys : GoodIn wsL_areKeys (va_wsS RL 120 yL_keys wsL_keys) := goodIn_app (goodIn_of _ (by decide +kernel)) ggL_areKeys_L_keys
theorem dL_areKeys_0 : decode cL_areKeys 0 = .ok (.aload_n 1, 1) := by decide +kernel
theorem dL_areKeys_1 : decode cL_areKeys 1 = .ok (.iload_n 2, 1) := by decide +kernel
theorem dL_areKeys_2 : decode cL_areKeys 2 = .ok (.invokestatic 88, 3) := by decide +kernel
theorem dL_areKeys_5 : decode cL_areKeys 5 = .ok (.istore_n 3, 1) := by decide +kernel
theorem dL_areKeys_6 : decode cL_areKeys 6 = .ok (.iconst 0, 1) := by decide +kernel
theorem dL_areKeys_7 : decode cL_areKeys 7 = .ok (.istore 4, 2) := by decide +kernel
theorem dL_areKeys_9 : decode cL_areKeys 9 = .ok (.iconst (-1), 1) := by decide +kernel
theorem dL_areKeys_10 : decode cL_areKeys 10 = .ok (.istore 5, 2) := by decide +kernel
theorem dL_areKeys_12 : decode cL_areKeys 12 = .ok (.iconst 0, 1) := by decide +kernel
theorem dL_areKeys_13 : decode cL_areKeys 13 = .ok (.istore 6, 2) := by decide +kernel
theorem dL_areKeys_15 : decode cL_areKeys 15 = .ok (.iload 6, 2) := by decide +kernel
theorem dL_areKeys_17 : decode cL_areKeys 17 = .ok (.bipush 20, 2) := by decide +kernel
theorem dL_areKeys_19 : decode cL_areKeys 19 = .ok (.if_icmp .ge 22, 3) := by decide +kernel
theorem dL_areKeys_22 : decode cL_areKeys 22 = .ok (.iload 4, 2) := by decide +kernel
theorem dL_areKeys_24 : decode cL_areKeys 24 = .ok (.aload_n 1, 1) := by decide +kernel
theorem dL_areKeys_25 : decode cL_areKeys 25 = .ok (.iload_n 3, 1) := by decide +kernel
theorem dL_areKeys_26 : decode cL_areKeys 26 = .ok (.iload 6, 2) := by decide +kernel
theorem dL_areKeys_28 : decode cL_areKeys 28 = .ok (.invokestatic 81, 3) := by decide +kernel
theorem dL_areKeys_31 : decode cL_areKeys 31 = .ok (.iaload, 1) := by decide +kernel
theorem dL_areKeys_32 : decode cL_areKeys 32 = .ok (.iadd, 1) := by decide +kernel
theorem dL_areKeys_33 : decode cL_areKeys 33 = .ok (.istore 4, 2) := by decide +kernel
theorem dL_areKeys_35 : decode cL_areKeys 35 = .ok (.iinc 6 1, 3) := by decide +kernel
theorem dL_areKeys_38 : decode cL_areKeys 38 = .ok (.goto (-23), 3) := by decide +kernel
theorem dL_areKeys_41 : decode cL_areKeys 41 = .ok (.iconst 0, 1) := by decide +kernel
theorem dL_areKeys_42 : decode cL_areKeys 42 = .ok (.istore 6, 2) := by decide +kernel
theorem dL_areKeys_44 : decode cL_areKeys 44 = .ok (.iload 6, 2) := by decide +kernel
theorem dL_areKeys_46 : decode cL_areKeys 46 = .ok (.iload 4, 2) := by decide +kernel
theorem dL_areKeys_48 : decode cL_areKeys 48 = .ok (.if_icmp .ge 97, 3) := by decide +kernel
theorem dL_areKeys_51 : decode cL_areKeys 51 = .ok (.aload_n 0, 1) := by decide +kernel
theorem dL_areKeys_52 : decode cL_areKeys 52 = .ok (.iload_n 2, 1) := by decide +kernel
theorem dL_areKeys_53 : decode cL_areKeys 53 = .ok (.iload 6, 2) := by decide +kernel
theorem dL_areKeys_55 : decode cL_areKeys 55 = .ok (.invokestatic 115, 3) := by decide +kernel
theorem dL_areKeys_58 : decode cL_areKeys 58 = .ok (.istore 7, 2) := by decide +kernel
theorem dL_areKeys_60 : decode cL_areKeys 60 = .ok (.iload 7, 2) := by decide +kernel
theorem dL_areKeys_62 : decode cL_areKeys 62 = .ok (.ifCond .lt 34, 3) := by decide +kernel
theorem dL_areKeys_65 : decode cL_areKeys 65 = .ok (.aload_n 1, 1) := by decide +kernel
theorem dL_areKeys_66 : decode cL_areKeys 66 = .ok (.iload_n 3, 1) := by decide +kernel
theorem dL_areKeys_67 : decode cL_areKeys 67 = .ok (.iload 7, 2) := by decide +kernel
theorem dL_areKeys_69 : decode cL_areKeys 69 = .ok (.invokestatic 81, 3) := by decide +kernel
theorem dL_areKeys_72 : decode cL_areKeys 72 = .ok (.iaload, 1) := by decide +kernel
theorem dL_areKeys_73 : decode cL_areKeys 73 = .ok (.ifCond .eq 23, 3) := by decide +kernel
theorem dL_areKeys_76 : decode cL_areKeys 76 = .ok (.aload_n 0, 1) := by decide +kernel
theorem dL_areKeys_77 : decode cL_areKeys 77 = .ok (.iload_n 2, 1) := by decide +kernel
theorem dL_areKeys_78 : decode cL_areKeys 78 = .ok (.iload 7, 2) := by decide +kernel
theorem dL_areKeys_80 : decode cL_areKeys 80 = .ok (.invokestatic 118, 3) := by decide +kernel
theorem dL_areKeys_83 : decode cL_areKeys 83 = .ok (.aload_n 1, 1) := by decide +kernel
theorem dL_areKeys_84 : decode cL_areKeys 84 = .ok (.iload_n 3, 1) := by decide +kernel
theorem dL_areKeys_85 : decode cL_areKeys 85 = .ok (.iload 7, 2) := by decide +kernel
theorem dL_areKeys_87 : decode cL_areKeys 87 = .ok (.invokestatic 81, 3) := by decide +kernel
theorem dL_areKeys_90 : decode cL_areKeys 90 = .ok (.iconst 2, 1) := by decide +kernel
theorem dL_areKeys_91 : decode cL_areKeys 91 = .ok (.iadd, 1) := by decide +kernel
theorem dL_areKeys_92 : decode cL_areKeys 92 = .ok (.iaload, 1) := by decide +kernel
theorem dL_areKeys_93 : decode cL_areKeys 93 = .ok (.if_icmp .eq 5, 3) := by decide +kernel
theorem dL_areKeys_96 : decode cL_areKeys 96 = .ok (.iconst 0, 1) := by decide +kernel
theorem dL_areKeys_97 : decode cL_areKeys 97 = .ok (.ireturn, 1) := by decide +kernel
theorem dL_areKeys_98 : decode cL_areKeys 98 = .ok (.iload 7, 2) := by decide +kernel
theorem dL_areKeys_100 : decode cL_areKeys 100 = .ok (.bipush 10, 2) := by decide +kernel
theorem dL_areKeys_102 : decode cL_areKeys 102 = .ok (.if_icmp .ge 8, 3) := by decide +kernel
theorem dL_areKeys_105 : decode cL_areKeys 105 = .ok (.iload 7, 2) := by decide +kernel
theorem dL_areKeys_107 : decode cL_areKeys 107 = .ok (.goto 17, 3) := by decide +kernel
theorem dL_areKeys_110 : decode cL_areKeys 110 = .ok (.sipush 1000, 3) := by decide +kernel
theorem dL_areKeys_113 : decode cL_areKeys 113 = .ok (.aload_n 1, 1) := by decide +kernel
theorem dL_areKeys_114 : decode cL_areKeys 114 = .ok (.iload_n 3, 1) := by decide +kernel
theorem dL_areKeys_115 : decode cL_areKeys 115 = .ok (.iload 7, 2) := by decide +kernel
theorem dL_areKeys_117 : decode cL_areKeys 117 = .ok (.invokestatic 81, 3) := by decide +kernel
theorem dL_areKeys_120 : decode cL_areKeys 120 = .ok (.iconst 3, 1) := by decide +kernel
theorem dL_areKeys_121 : decode cL_areKeys 121 = .ok (.iadd, 1) := by decide +kernel
theorem dL_areKeys_122 : decode cL_areKeys 122 = .ok (.iaload, 1) := by decide +kernel
theorem dL_areKeys_123 : decode cL_areKeys 123 = .ok (.iadd, 1) := by decide +kernel
theorem dL_areKeys_124 : decode cL_areKeys 124 = .ok (.istore 8, 2) := by decide +kernel
theorem dL_areKeys_126 : decode cL_areKeys 126 = .ok (.iload 8, 2) := by decide +kernel
theorem dL_areKeys_128 : decode cL_areKeys 128 = .ok (.iload 5, 2) := by decide +kernel
theorem dL_areKeys_130 : decode cL_areKeys 130 = .ok (.if_icmp .gt 5, 3) := by decide +kernel
theorem dL_areKeys_133 : decode cL_areKeys 133 = .ok (.iconst 0, 1) := by decide +kernel
theorem dL_areKeys_134 : decode cL_areKeys 134 = .ok (.ireturn, 1) := by decide +kernel
theorem dL_areKeys_135 : decode cL_areKeys 135 = .ok (.iload 8, 2) := by decide +kernel
theorem dL_areKeys_137 : decode cL_areKeys 137 = .ok (.istore 5, 2) := by decide +kernel
theorem dL_areKeys_139 : decode cL_areKeys 139 = .ok (.iinc 6 1, 3) := by decide +kernel
theorem dL_areKeys_142 : decode cL_areKeys 142 = .ok (.goto (-98), 3) := by decide +kernel
theorem dL_areKeys_145 : decode cL_areKeys 145 = .ok (.aload_n 0, 1) := by decide +kernel
theorem dL_areKeys_146 : decode cL_areKeys 146 = .ok (.iload_n 2, 1) := by decide +kernel
theorem dL_areKeys_147 : decode cL_areKeys 147 = .ok (.invokestatic 120, 3) := by decide +kernel
theorem dL_areKeys_150 : decode cL_areKeys 150 = .ok (.iload 4, 2) := by decide +kernel
theorem dL_areKeys_152 : decode cL_areKeys 152 = .ok (.if_icmp .ne 30, 3) := by decide +kernel
theorem dL_areKeys_155 : decode cL_areKeys 155 = .ok (.aload_n 0, 1) := by decide +kernel
theorem dL_areKeys_156 : decode cL_areKeys 156 = .ok (.iload_n 2, 1) := by decide +kernel
theorem dL_areKeys_157 : decode cL_areKeys 157 = .ok (.iload 4, 2) := by decide +kernel
theorem dL_areKeys_159 : decode cL_areKeys 159 = .ok (.invokestatic 115, 3) := by decide +kernel
theorem dL_areKeys_162 : decode cL_areKeys 162 = .ok (.ldc 62, 2) := by decide +kernel
theorem dL_areKeys_164 : decode cL_areKeys 164 = .ok (.if_icmp .ne 18, 3) := by decide +kernel
theorem dL_areKeys_167 : decode cL_areKeys 167 = .ok (.aload_n 0, 1) := by decide +kernel
theorem dL_areKeys_168 : decode cL_areKeys 168 = .ok (.iload_n 2, 1) := by decide +kernel
theorem dL_areKeys_169 : decode cL_areKeys 169 = .ok (.iconst (-1), 1) := by decide +kernel
theorem dL_areKeys_170 : decode cL_areKeys 170 = .ok (.invokestatic 115, 3) := by decide +kernel
theorem dL_areKeys_173 : decode cL_areKeys 173 = .ok (.ldc 62, 2) := by decide +kernel
theorem dL_areKeys_175 : decode cL_areKeys 175 = .ok (.if_icmp .ne 7, 3) := by decide +kernel
theorem dL_areKeys_178 : decode cL_areKeys 178 = .ok (.iconst 1, 1) := by decide +kernel
theorem dL_areKeys_179 : decode cL_areKeys 179 = .ok (.goto 4, 3) := by decide +kernel
theorem dL_areKeys_182 : decode cL_areKeys 182 = .ok (.iconst 0, 1) := by decide +kernel
theorem dL_areKeys_183 : decode cL_areKeys 183 = .ok (.ireturn, 1) := by decide +kernel
set_option maxRecDepth 20000 in
theorem ggL_law_X11_init : GoodIn wsL_law wsX11_init := goodIn_r _ [9, 10, 11, 12, 13, 14, 15, 16, 17, 18, 19, 20, 21, 22, 23, 24, 25, 26, 27, 28, 29, 30, 31, 32, 33, 34, 35, 36, 37, 38, 39, 40, 41, 42, 3, 43, 44, 45, 46, 47, 48, 49, 50, 51, 52, 53, 54, 55, 56, 57, 58, 59, 60, 61, 62, 63, 64, 65, 454, 455, 450, 451, 452, 453, 456, 457, 458, 459, 460, 461, 462, 463, 464, 465, 466, 467, 468, 469, 470, 471, 472, 473, 474, 475, 476, 477, 478, 479, 480, 481, 482, 483, 484, 485, 486, 487, 488] (by decide +kernel) (by decide +kernel)
set_option maxRecDepth 20000 in
theorem gL_law_X11_init : GoodIn wsL_law (wsX11_init) := ggL_law_X11_init
set_option maxRecDepth 20000 in
theorem ggL_law_L_in : GoodIn wsL_law wsL_in := goodIn_ca (goodIn_r _ [69, 70, 71, 72, 68, 73, 74, 75] (by decide +kernel) (by decide +kernel)) (goodIn_sub (fun _ h => List.mem_append_left _ (List.mem_append_left _ (List.mem_append_left _ (List.mem_append_left _ (List.mem_append_left _ (List.mem_append_right _ h)))))) (by decide +kernel))
set_option maxRecDepth 20000 in
theorem gL_law_L_in : GoodIn wsL_law (va_wsS RL 124 yL_in wsL_in) := goodIn_app (goodIn_of _ (by decide +kernel)) ggL_law_L_in
set_option maxRecDepth 20000 in
theorem ggL_law_L_addObject : GoodIn wsL_law wsL_addObject := goodIn_ca (goodIn_ca (goodIn_r _ [78, 79, 80, 4, 5, 81, 82, 83, 2, 84, 85, 86, 87, 88, 16, 89, 90, 91, 92, 93, 94, 15, 95, 96, 33, 97, 98, 99, 100, 101, 102, 103, 104, 11, 12, 105, 106, 3, 107, 108, 109, 110, 111, 112, 113, 114, 115, 116, 117, 118, 119, 450, 451, 452, 453, 489, 490, 491, 492, 493, 494, 495, 496, 497, 454, 455] (by decide +kernel) (by decide +kernel)) (goodIn_sub (fun _ h => List.mem_append_left _ (List.mem_append_left _ (List.mem_append_left _ (List.mem_append_left _ (List.mem_append_right _ h))))) (by decide +kernel))) (goodIn_sub (fun _ h => List.mem_append_left _ (List.mem_append_left _ (List.mem_append_left _ (List.mem_append_right _ h)))) (by decide +kernel))
set_option maxRecDepth 20000 in
theorem gL_law_L_addObject : GoodIn wsL_law (va_wsS RL 127 yL_addObject wsL_addObject) := goodIn_app (goodIn_of _ (by decide +kernel)) ggL_law_L_addObject
set_option maxRecDepth 20000 in
theorem ggL_law_L_addProxy : GoodIn wsL_law wsL_addProxy := goodIn_ca (goodIn_ca (goodIn_r _ [122, 79, 80, 4, 5, 123, 124, 125, 2, 126, 85, 86, 87, 88, 16, 89, 90, 91, 92, 93, 94, 15, 95, 96, 33, 97, 98, 99, 100, 101, 102, 103, 104, 11, 12, 105, 106, 3, 107, 108, 109, 110, 111, 112, 113, 114, 115, 116, 117, 118, 119, 450, 451, 452, 453, 489, 490, 491, 492, 493, 494, 495, 496, 497, 454, 455] (by decide +kernel) (by decide +kernel)) (goodIn_sub (fun _ h => List.mem_append_left _ (List.mem_append_left _ (List.mem_append_left _ (List.mem_append_left _ (List.mem_append_right _ h))))) (by decide +kernel))) (goodIn_sub (fun _ h => List.mem_append_left _ (List.mem_append_left _ (List.mem_append_left _ (List.mem_append_right _ h)))) (by decide +kernel))
set_option maxRecDepth 20000 in
theorem gL_law_L_addProxy : GoodIn wsL_law (va_wsS RL 129 yL_addProxy wsL_addProxy) := goodIn_app (goodIn_of _ (by decide +kernel)) ggL_law_L_addProxy
set_option maxRecDepth 20000 in
theorem ggL_law_L_plain : GoodIn wsL_law wsL_plain := goodIn_ca (goodIn_r _ [129] (by decide +kernel) (by decide +kernel)) (goodIn_sub (fun _ h => List.mem_append_left _ (List.mem_append_left _ (List.mem_append_left _ (List.mem_append_left _ (List.mem_append_left _ (List.mem_append_right _ h)))))) (by decide +kernel))
set_option maxRecDepth 20000 in
theorem gL_law_L_plain : GoodIn wsL_law (va_wsS RL 88 yL_plain wsL_plain) := goodIn_app (goodIn_of _ (by decide +kernel)) ggL_law_L_plain
set_option maxRecDepth 20000 in
theorem ggL_law_L_define : GoodIn wsL_law wsL_define := goodIn_ca (goodIn_ca (goodIn_ca (goodIn_r _ [132, 79, 133, 4, 5, 134, 135, 136, 2, 137, 85, 86, 138, 139, 16, 92, 93, 94, 15, 95, 96, 33, 140, 141, 142, 143, 144, 145, 146, 147, 148, 149, 150, 151, 152, 153, 154, 91, 155, 105, 156, 157, 158, 159, 160, 109, 108, 161, 162, 163, 164, 165, 166, 167, 168, 169, 110, 170, 171, 172, 173, 174, 175, 176, 450, 451, 452, 453, 454, 455, 489, 490, 491, 492, 493, 494, 495, 496, 497] (by decide +kernel) (by decide +kernel)) (goodIn_sub (fun _ h => List.mem_append_left _ (List.mem_append_left _ (List.mem_append_left _ (List.mem_append_left _ (List.mem_append_right _ h))))) (by decide +kernel))) (goodIn_sub (fun _ h => List.mem_append_left _ (List.mem_append_left _ (List.mem_append_right _ h))) (by decide +kernel))) (goodIn_sub (fun _ h => List.mem_append_left _ (List.mem_append_left _ (List.mem_append_left _ (List.mem_append_left _ (List.mem_append_left _ (List.mem_append_right _ h)))))) (by decide +kernel))
set_option maxRecDepth 20000 in
theorem gL_law_L_define : GoodIn wsL_law (va_wsS RL 131 yL_define wsL_define) := goodIn_app (goodIn_of _ (by decide +kernel)) ggL_law_L_define
set_option maxRecDepth 20000 in
theorem ggL_law_L_defined : GoodIn wsL_law wsL_defined := goodIn_ca (goodIn_r _ [179, 180, 181, 68, 182] (by decide +kernel) (by decide +kernel)) (goodIn_sub (fun _ h => List.mem_append_left _ (List.mem_append_left _ (List.mem_append_left _ (List.mem_append_left _ (List.mem_append_left _ (List.mem_append_right _ h)))))) (by decide +kernel))
set_option maxRecDepth 20000 in
theorem gL_law_L_defined : GoodIn wsL_law (va_wsS RL 84 yL_defined wsL_defined) := goodIn_app (goodIn_of _ (by decide +kernel)) ggL_law_L_defined
set_option maxRecDepth 20000 in
theorem ggL_law_L_set : GoodIn wsL_law wsL_set := goodIn_ca (goodIn_ca (goodIn_ca (goodIn_r _ [185, 79, 133, 4, 5, 186, 187, 188, 2, 189, 85, 86, 138, 139, 16, 92, 93, 94, 15, 95, 96, 33, 140, 141, 142, 143, 144, 145, 190, 191, 192, 193, 150, 151, 194, 152, 153, 154, 91, 155, 105, 195, 196, 197, 198, 111, 199, 200, 201, 202, 107, 203, 204, 147, 148, 149, 205, 206, 207, 208, 161, 162, 163, 164, 109, 170, 171, 172, 173, 209, 210, 211, 212, 108, 213, 214, 215, 216, 217, 218, 219, 220, 221, 222, 157, 158, 159, 160, 165, 166, 167, 168, 169, 110, 174, 175, 176, 223, 224, 225, 226, 450, 451, 452, 453, 454, 455, 489, 490, 491, 492, 493, 494, 495, 496, 497] (by decide +kernel) (by decide +kernel)) (goodIn_sub (fun _ h => List.mem_append_left _ (List.mem_append_left _ (List.mem_append_left _ (List.mem_append_left _ (List.mem_append_right _ h))))) (by decide +kernel))) (goodIn_sub (fun _ h => List.mem_append_left _ (List.mem_append_left _ (List.mem_append_right _ h))) (by decide +kernel))) (goodIn_sub (fun _ h => List.mem_append_left _ (List.mem_append_left _ (List.mem_append_left _ (List.mem_append_left _ (List.mem_append_left _ (List.mem_append_right _ h)))))) (by decide +kernel))
set_option maxRecDepth 20000 in
theorem gL_law_L_set : GoodIn wsL_law (va_wsS RL 134 yL_set wsL_set) := goodIn_app (goodIn_of _ (by decide +kernel)) ggL_law_L_set
set_option maxRecDepth 20000 in
theorem ggL_law_L_wasSet : GoodIn wsL_law wsL_wasSet := goodIn_ca (goodIn_r _ [229, 127, 128, 68, 129, 180, 181, 182, 227, 228, 230, 231, 232, 233, 234, 235, 177, 178, 179] (by decide +kernel) (by decide +kernel)) (goodIn_sub (fun _ h => List.mem_append_left _ (List.mem_append_left _ (List.mem_append_left _ (List.mem_append_left _ (List.mem_append_left _ (List.mem_append_right _ h)))))) (by decide +kernel))
set_option maxRecDepth 20000 in
theorem gL_law_L_wasSet : GoodIn wsL_law (va_wsS RL 91 yL_wasSet wsL_wasSet) := goodIn_app (goodIn_of _ (by decide +kernel)) ggL_law_L_wasSet
set_option maxRecDepth 20000 in
theorem ggL_law_L_delete : GoodIn wsL_law wsL_delete := goodIn_ca (goodIn_ca (goodIn_r _ [238, 79, 4, 239, 240, 241, 2, 242, 85, 86, 16, 92, 93, 94, 15, 95, 96, 33, 140, 141, 142, 243, 244, 245, 246, 150, 151, 152, 153, 154, 91, 155, 105, 247, 248, 249, 250, 109, 169, 110, 161, 162, 163, 164, 170, 171, 172, 173, 195, 196, 197, 198, 111, 199, 200, 201, 202, 107, 203, 204, 147, 148, 149, 251, 252, 253, 254, 160, 213, 214, 215, 450, 451, 452, 453, 454, 455, 489, 490, 491, 492, 493, 494, 495, 496, 497] (by decide +kernel) (by decide +kernel)) (goodIn_sub (fun _ h => List.mem_append_left _ (List.mem_append_left _ (List.mem_append_left _ (List.mem_append_left _ (List.mem_append_right _ h))))) (by decide +kernel))) (goodIn_sub (fun _ h => List.mem_append_left _ (List.mem_append_left _ (List.mem_append_left _ (List.mem_append_left _ (List.mem_append_left _ (List.mem_append_right _ h)))))) (by decide +kernel))
set_option maxRecDepth 20000 in
theorem gL_law_L_delete : GoodIn wsL_law (va_wsS RL 137 yL_delete wsL_delete) := goodIn_app (goodIn_of _ (by decide +kernel)) ggL_law_L_delete
set_option maxRecDepth 20000 in
theorem ggL_law_L_gone : GoodIn wsL_law wsL_gone := goodIn_ca (goodIn_r _ [257, 127, 128, 68, 129, 258, 259, 260, 180, 181, 182, 255, 256] (by decide +kernel) (by decide +kernel)) (goodIn_sub (fun _ h => List.mem_append_left _ (List.mem_append_left _ (List.mem_append_left _ (List.mem_append_left _ (List.mem_append_left _ (List.mem_append_right _ h)))))) (by decide +kernel))
set_option maxRecDepth 20000 in
theorem gL_law_L_gone : GoodIn wsL_law (va_wsS RL 112 yL_gone wsL_gone) := goodIn_app (goodIn_of _ (by decide +kernel)) ggL_law_L_gone
set_option maxRecDepth 20000 in
theorem ggL_law_L_closeObject : GoodIn wsL_law wsL_closeObject := goodIn_ca (goodIn_r _ [263, 79, 4, 264, 265, 266, 2, 267, 85, 86, 16, 268, 92, 93, 94, 15, 95, 96, 33, 146, 147, 148, 149, 150, 151, 152, 153, 154, 91, 155, 105, 450, 451, 452, 453, 489, 490, 491, 492, 493, 494, 495, 496, 497, 454, 455] (by decide +kernel) (by decide +kernel)) (goodIn_sub (fun _ h => List.mem_append_left _ (List.mem_append_left _ (List.mem_append_left _ (List.mem_append_left _ (List.mem_append_right _ h))))) (by decide +kernel))
set_option maxRecDepth 20000 in
theorem gL_law_L_closeObject : GoodIn wsL_law (va_wsS RL 139 yL_closeObject wsL_closeObject) := goodIn_app (goodIn_of _ (by decide +kernel)) ggL_law_L_closeObject
set_option maxRecDepth 20000 in
theorem ggL_law_J0_charAt_5068e : GoodIn wsL_law wsJ0_charAt_5068e := goodIn_r _ [273, 274, 275, 276, 277, 272, 278, 279, 280, 281, 282, 283, 284, 285, 286, 287, 288, 289, 290, 291, 292, 293, 294, 295, 296, 297, 298, 299, 300, 301, 302, 303, 304, 305, 306, 307, 308, 309, 498, 499] (by decide +kernel) (by decide +kernel)
set_option maxRecDepth 20000 in
theorem gL_law_J0_charAt_5068e : GoodIn wsL_law (wsV RL 143 RJ0 yJ0_charAt_5068e wsJ0_charAt_5068e) := goodIn_app (goodIn_of _ (by decide +kernel)) ggL_law_J0_charAt_5068e
set_option maxRecDepth 20000 in
theorem ggL_law_L_tell : GoodIn wsL_law wsL_tell := goodIn_ca (goodIn_ca (goodIn_ca (goodIn_ca (goodIn_r _ [312, 79, 133, 80, 4, 5, 6, 313, 314, 315, 2, 316, 85, 86, 138, 139, 87, 88, 16, 92, 93, 94, 15, 95, 96, 33, 317, 318, 319, 320, 321, 322, 143, 144, 145, 323, 153, 154, 91, 155, 105, 324, 196, 197, 198, 111, 199, 200, 201, 202, 107, 325, 326, 327, 328, 450, 451, 452, 453, 454, 455, 489, 490, 491, 492, 493, 494, 495, 496, 497] (by decide +kernel) (by decide +kernel)) (goodIn_sub (fun _ h => List.mem_append_left _ (List.mem_append_left _ (List.mem_append_left _ (List.mem_append_left _ (List.mem_append_right _ h))))) (by decide +kernel))) (goodIn_sub (fun _ h => List.mem_append_left _ (List.mem_append_left _ (List.mem_append_right _ h))) (by decide +kernel))) (goodIn_sub (fun _ h => List.mem_append_left _ (List.mem_append_left _ (List.mem_append_left _ (List.mem_append_right _ h)))) (by decide +kernel))) (goodIn_sub (fun _ h => List.mem_append_left _ (List.mem_append_left _ (List.mem_append_left _ (List.mem_append_left _ (List.mem_append_left _ (List.mem_append_right _ h)))))) (by decide +kernel))
set_option maxRecDepth 20000 in
theorem gL_law_L_tell : GoodIn wsL_law (va_wsS RL 148 yL_tell wsL_tell) := goodIn_app (goodIn_of _ (by decide +kernel)) ggL_law_L_tell
set_option maxRecDepth 20000 in
theorem ggL_law_L_get : GoodIn wsL_law wsL_get := goodIn_ca (goodIn_ca (goodIn_ca (goodIn_r _ [331, 79, 332, 4, 5, 333, 334, 335, 2, 336, 85, 86, 337, 338, 16, 339, 92, 93, 94, 15, 95, 96, 33, 140, 141, 142, 340, 341, 342, 343, 150, 344, 151, 194, 152, 153, 154, 91, 155, 105, 195, 196, 197, 198, 111, 199, 200, 201, 202, 107, 203, 204, 147, 148, 149, 205, 206, 207, 208, 161, 162, 163, 164, 109, 170, 171, 172, 173, 209, 210, 211, 212, 108, 216, 345, 450, 451, 452, 453, 454, 455, 489, 490, 491, 492, 493, 494, 495, 496, 497] (by decide +kernel) (by decide +kernel)) (goodIn_sub (fun _ h => List.mem_append_left _ (List.mem_append_left _ (List.mem_append_left _ (List.mem_append_left _ (List.mem_append_right _ h))))) (by decide +kernel))) (goodIn_sub (fun _ h => List.mem_append_left _ (List.mem_append_right _ h)) (by decide +kernel))) (goodIn_sub (fun _ h => List.mem_append_left _ (List.mem_append_left _ (List.mem_append_left _ (List.mem_append_left _ (List.mem_append_left _ (List.mem_append_right _ h)))))) (by decide +kernel))
set_option maxRecDepth 20000 in
theorem gL_law_L_get : GoodIn wsL_law (va_wsS RL 151 yL_get wsL_get) := goodIn_app (goodIn_of _ (by decide +kernel)) ggL_law_L_get
set_option maxRecDepth 20000 in
theorem ggL_law_L_got : GoodIn wsL_law wsL_got := goodIn_ca (goodIn_r _ [348, 5, 127, 128, 68, 129, 180, 181, 182, 346, 347, 230, 231, 232] (by decide +kernel) (by decide +kernel)) (goodIn_sub (fun _ h => List.mem_append_left _ (List.mem_append_left _ (List.mem_append_left _ (List.mem_append_left _ (List.mem_append_left _ (List.mem_append_right _ h)))))) (by decide +kernel))
set_option maxRecDepth 20000 in
theorem gL_law_L_got : GoodIn wsL_law (va_wsS RL 102 yL_got wsL_got) := goodIn_app (goodIn_of _ (by decide +kernel)) ggL_law_L_got
set_option maxRecDepth 20000 in
theorem ggL_law_L_has : GoodIn wsL_law wsL_has := goodIn_ca (goodIn_ca (goodIn_r _ [351, 79, 4, 352, 353, 354, 2, 355, 85, 86, 16, 92, 93, 94, 15, 95, 96, 33, 140, 141, 142, 356, 357, 358, 359, 150, 151, 194, 152, 153, 154, 91, 155, 105, 195, 196, 197, 198, 111, 199, 200, 201, 202, 107, 203, 204, 147, 148, 149, 251, 252, 253, 254, 160, 161, 162, 163, 164, 109, 170, 171, 172, 173, 213, 214, 215, 216, 450, 451, 452, 453, 454, 455, 489, 490, 491, 492, 493, 494, 495, 496, 497] (by decide +kernel) (by decide +kernel)) (goodIn_sub (fun _ h => List.mem_append_left _ (List.mem_append_left _ (List.mem_append_left _ (List.mem_append_left _ (List.mem_append_right _ h))))) (by decide +kernel))) (goodIn_sub (fun _ h => List.mem_append_left _ (List.mem_append_left _ (List.mem_append_left _ (List.mem_append_left _ (List.mem_append_left _ (List.mem_append_right _ h)))))) (by decide +kernel))
set_option maxRecDepth 20000 in
theorem gL_law_L_has : GoodIn wsL_law (va_wsS RL 153 yL_has wsL_has) := goodIn_app (goodIn_of _ (by decide +kernel)) ggL_law_L_has
set_option maxRecDepth 20000 in
theorem ggL_law_L_asked : GoodIn wsL_law wsL_asked := goodIn_ca (goodIn_r _ [362, 127, 128, 68, 129, 258, 259, 260, 180, 181, 182, 360, 361, 230, 231, 232] (by decide +kernel) (by decide +kernel)) (goodIn_sub (fun _ h => List.mem_append_left _ (List.mem_append_left _ (List.mem_append_left _ (List.mem_append_left _ (List.mem_append_left _ (List.mem_append_right _ h)))))) (by decide +kernel))
set_option maxRecDepth 20000 in
theorem gL_law_L_asked : GoodIn wsL_law (va_wsS RL 109 yL_asked wsL_asked) := goodIn_app (goodIn_of _ (by decide +kernel)) ggL_law_L_asked
set_option maxRecDepth 20000 in
theorem ggL_law_L_areKeys : GoodIn wsL_law wsL_areKeys := goodIn_ca (goodIn_ca (goodIn_ca (goodIn_ca (goodIn_r _ [365, 6, 127, 128, 68, 129, 180, 181, 182, 366, 367, 368, 79, 332, 369, 4, 5, 370, 371, 372, 2, 373, 85, 86, 337, 338, 374, 375, 16, 92, 93, 94, 15, 95, 96, 33, 146, 147, 148, 149, 150, 151, 152, 153, 154, 91, 155, 105, 376, 377, 378, 379, 169, 110, 380, 381, 382, 383, 384, 385, 386, 140, 141, 142, 387, 224, 225, 226, 109, 388, 389, 390, 391, 392, 393, 394, 395, 450, 451, 452, 453, 454, 455, 489, 490, 491, 492, 493, 494, 495, 496, 497] (by decide +kernel) (by decide +kernel)) (goodIn_sub (fun _ h => List.mem_append_left _ (List.mem_append_left _ (List.mem_append_left _ (List.mem_append_left _ (List.mem_append_left _ (List.mem_append_right _ h)))))) (by decide +kernel))) (goodIn_sub (fun _ h => List.mem_append_left _ (List.mem_append_left _ (List.mem_append_left _ (List.mem_append_left _ (List.mem_append_right _ h))))) (by decide +kernel))) (goodIn_sub (fun _ h => List.mem_append_left _ (List.mem_append_right _ h)) (by decide +kernel))) (goodIn_sub (fun _ h => List.mem_append_right _ h) (by decide +kernel))
set_option maxRecDepth 20000 in
theorem gL_law_L_areKeys : GoodIn wsL_law (va_wsS RL 155 yL_areKeys wsL_areKeys) := goodIn_app (goodIn_of _ (by decide +kernel)) ggL_law_L_areKeys
set_option maxRecDepth 20000 in
theorem ggL_law_X11_isSound : GoodIn wsL_law wsX11_isSound := goodIn_ca (goodIn_r _ [399, 24, 20, 16, 400, 401, 402, 23, 403, 404, 405, 406, 407, 408, 409, 410, 42, 411, 412, 413, 19, 414, 415, 416, 417, 418, 15, 419, 96, 420, 93, 94, 95, 33, 152, 153, 154, 91, 155, 105, 421, 422, 423, 424, 169, 161, 162, 163, 164, 109, 425, 377, 378, 379, 110, 426, 427, 428, 429, 450, 451, 452, 453, 459, 460, 461, 462, 463, 464, 465, 466, 456, 457, 458, 454, 455, 489, 490, 491, 492, 493, 494, 495, 496, 497] (by decide +kernel) (by decide +kernel)) (goodIn_sub (fun _ h => List.mem_append_left _ (List.mem_append_left _ (List.mem_append_left _ (List.mem_append_left _ (List.mem_append_left _ (List.mem_append_right _ h)))))) (by decide +kernel))
set_option maxRecDepth 20000 in
theorem gL_law_X11_isSound : GoodIn wsL_law (wsV RL 159 RX11 yX11_isSound wsX11_isSound) := goodIn_app (goodIn_of _ (by decide +kernel)) ggL_law_X11_isSound
set_option maxRecDepth 20000 in
theorem ggL_law_L_setChain : GoodIn wsL_law wsL_setChain := goodIn_ca (goodIn_r _ [432, 79, 4, 433, 434, 435, 2, 436, 85, 86, 16, 92, 93, 94, 15, 95, 96, 33, 146, 147, 148, 149, 150, 151, 152, 153, 154, 91, 155, 105, 437, 438, 439, 440, 194, 441, 450, 451, 452, 453, 454, 455, 489, 490, 491, 492, 493, 494, 495, 496, 497] (by decide +kernel) (by decide +kernel)) (goodIn_sub (fun _ h => List.mem_append_left _ (List.mem_append_left _ (List.mem_append_left _ (List.mem_append_left _ (List.mem_append_right _ h))))) (by decide +kernel))
set_option maxRecDepth 20000 in
theorem gL_law_L_setChain : GoodIn wsL_law (va_wsS RL 163 yL_setChain wsL_setChain) := goodIn_app (goodIn_of _ (by decide +kernel)) ggL_law_L_setChain
set_option maxRecDepth 20000 in
theorem ggL_law_L_keys : GoodIn wsL_law wsL_keys := goodIn_ca (goodIn_ca (goodIn_r _ [390, 79, 332, 4, 5, 391, 392, 393, 2, 394, 85, 86, 337, 338, 16, 395, 92, 93, 94, 15, 95, 96, 33, 146, 147, 148, 149, 150, 151, 152, 153, 154, 91, 155, 105, 450, 451, 452, 453, 489, 490, 491, 492, 493, 494, 495, 496, 497, 454, 455] (by decide +kernel) (by decide +kernel)) (goodIn_sub (fun _ h => List.mem_append_left _ (List.mem_append_left _ (List.mem_append_left _ (List.mem_append_left _ (List.mem_append_right _ h))))) (by decide +kernel))) (goodIn_sub (fun _ h => List.mem_append_left _ (List.mem_append_right _ h)) (by decide +kernel))
set_option maxRecDepth 20000 in
theorem gL_law_L_keys : GoodIn wsL_law (va_wsS RL 120 yL_keys wsL_keys) := goodIn_app (goodIn_of _ (by decide +kernel)) ggL_law_L_keys
set_option maxRecDepth 20000 in
theorem ggL_law_L_rights : GoodIn wsL_law wsL_rights := goodIn_ca (goodIn_ca (goodIn_ca (goodIn_ca (goodIn_r _ [382, 79, 332, 369, 4, 5, 6, 383, 384, 385, 2, 386, 85, 86, 337, 338, 374, 375, 16, 92, 93, 94, 15, 95, 96, 33, 140, 141, 142, 146, 147, 148, 149, 150, 151, 152, 153, 154, 91, 155, 105, 387, 224, 225, 226, 109, 450, 451, 452, 453, 454, 455, 489, 490, 491, 492, 493, 494, 495, 496, 497] (by decide +kernel) (by decide +kernel)) (goodIn_sub (fun _ h => List.mem_append_left _ (List.mem_append_left _ (List.mem_append_left _ (List.mem_append_left _ (List.mem_append_right _ h))))) (by decide +kernel))) (goodIn_sub (fun _ h => List.mem_append_left _ (List.mem_append_right _ h)) (by decide +kernel))) (goodIn_sub (fun _ h => List.mem_append_right _ h) (by decide +kernel))) (goodIn_sub (fun _ h => List.mem_append_left _ (List.mem_append_left _ (List.mem_append_left _ (List.mem_append_left _ (List.mem_append_left _ (List.mem_append_right _ h)))))) (by decide +kernel))
set_option maxRecDepth 20000 in
theorem gL_law_L_rights : GoodIn wsL_law (va_wsS RL 118 yL_rights wsL_rights) := goodIn_app (goodIn_of _ (by decide +kernel)) ggL_law_L_rights
set_option maxRecDepth 20000 in
theorem ggL_law_L_revoke : GoodIn wsL_law wsL_revoke := goodIn_ca (goodIn_ca (goodIn_r _ [444, 79, 80, 4, 5, 445, 446, 447, 2, 448, 85, 86, 87, 88, 16, 449, 92, 93, 94, 15, 95, 96, 33, 323, 153, 154, 91, 155, 105, 450, 451, 452, 453, 489, 490, 491, 492, 493, 494, 495, 496, 497, 454, 455] (by decide +kernel) (by decide +kernel)) (goodIn_sub (fun _ h => List.mem_append_left _ (List.mem_append_left _ (List.mem_append_left _ (List.mem_append_left _ (List.mem_append_right _ h))))) (by decide +kernel))) (goodIn_sub (fun _ h => List.mem_append_left _ (List.mem_append_left _ (List.mem_append_left _ (List.mem_append_right _ h)))) (by decide +kernel))
set_option maxRecDepth 20000 in
theorem gL_law_L_revoke : GoodIn wsL_law (va_wsS RL 165 yL_revoke wsL_revoke) := goodIn_app (goodIn_of _ (by decide +kernel)) ggL_law_L_revoke
theorem dL_law_0 : decode cL_law 0 = .ok (.new 10, 3) := by decide +kernel
theorem dL_law_3 : decode cL_law 3 = .ok (.dup, 1) := by decide +kernel
theorem dL_law_4 : decode cL_law 4 = .ok (.invokespecial 123, 3) := by decide +kernel
theorem dL_law_7 : decode cL_law 7 = .ok (.astore_n 1, 1) := by decide +kernel
theorem dL_law_8 : decode cL_law 8 = .ok (.sipush 700, 3) := by decide +kernel
theorem dL_law_11 : decode cL_law 11 = .ok (.newarray .int, 2) := by decide +kernel
theorem dL_law_13 : decode cL_law 13 = .ok (.astore_n 2, 1) := by decide +kernel
theorem dL_law_14 : decode cL_law 14 = .ok (.iconst 1, 1) := by decide +kernel
theorem dL_law_15 : decode cL_law 15 = .ok (.istore_n 3, 1) := by decide +kernel
theorem dL_law_16 : decode cL_law 16 = .ok (.iconst 0, 1) := by decide +kernel
theorem dL_law_17 : decode cL_law 17 = .ok (.istore 4, 2) := by decide +kernel
theorem dL_law_19 : decode cL_law 19 = .ok (.iload 4, 2) := by decide +kernel
theorem dL_law_21 : decode cL_law 21 = .ok (.iconst 5, 1) := by decide +kernel
theorem dL_law_22 : decode cL_law 22 = .ok (.if_icmp .ge 69, 3) := by decide +kernel
theorem dL_law_25 : decode cL_law 25 = .ok (.aload_n 2, 1) := by decide +kernel
theorem dL_law_26 : decode cL_law 26 = .ok (.bipush 10, 2) := by decide +kernel
theorem dL_law_28 : decode cL_law 28 = .ok (.iload 4, 2) := by decide +kernel
theorem dL_law_30 : decode cL_law 30 = .ok (.iadd, 1) := by decide +kernel
theorem dL_law_31 : decode cL_law 31 = .ok (.iload 4, 2) := by decide +kernel
theorem dL_law_33 : decode cL_law 33 = .ok (.ifCond .eq 13, 3) := by decide +kernel
theorem dL_law_36 : decode cL_law 36 = .ok (.aload_n 0, 1) := by decide +kernel
theorem dL_law_37 : decode cL_law 37 = .ok (.iload 4, 2) := by decide +kernel
theorem dL_law_39 : decode cL_law 39 = .ok (.iconst 3, 1) := by decide +kernel
theorem dL_law_40 : decode cL_law 40 = .ok (.invokestatic 124, 3) := by decide +kernel
theorem dL_law_43 : decode cL_law 43 = .ok (.ifCond .ne 7, 3) := by decide +kernel
theorem dL_law_46 : decode cL_law 46 = .ok (.iconst (-1), 1) := by decide +kernel
theorem dL_law_47 : decode cL_law 47 = .ok (.goto 13, 3) := by decide +kernel
theorem dL_law_50 : decode cL_law 50 = .ok (.aload_n 0, 1) := by decide +kernel
theorem dL_law_51 : decode cL_law 51 = .ok (.iconst 5, 1) := by decide +kernel
theorem dL_law_52 : decode cL_law 52 = .ok (.iload 4, 2) := by decide +kernel
theorem dL_law_54 : decode cL_law 54 = .ok (.iadd, 1) := by decide +kernel
theorem dL_law_55 : decode cL_law 55 = .ok (.iload 4, 2) := by decide +kernel
theorem dL_law_57 : decode cL_law 57 = .ok (.invokestatic 124, 3) := by decide +kernel
theorem dL_law_60 : decode cL_law 60 = .ok (.iastore, 1) := by decide +kernel
theorem dL_law_61 : decode cL_law 61 = .ok (.iload_n 3, 1) := by decide +kernel
theorem dL_law_62 : decode cL_law 62 = .ok (.aload_n 1, 1) := by decide +kernel
theorem dL_law_63 : decode cL_law 63 = .ok (.aload_n 2, 1) := by decide +kernel
theorem dL_law_64 : decode cL_law 64 = .ok (.bipush 10, 2) := by decide +kernel
theorem dL_law_66 : decode cL_law 66 = .ok (.iload 4, 2) := by decide +kernel
theorem dL_law_68 : decode cL_law 68 = .ok (.iadd, 1) := by decide +kernel
theorem dL_law_69 : decode cL_law 69 = .ok (.iaload, 1) := by decide +kernel
theorem dL_law_70 : decode cL_law 70 = .ok (.invokestatic 127, 3) := by decide +kernel
theorem dL_law_73 : decode cL_law 73 = .ok (.iload 4, 2) := by decide +kernel
theorem dL_law_75 : decode cL_law 75 = .ok (.if_icmp .ne 7, 3) := by decide +kernel
theorem dL_law_78 : decode cL_law 78 = .ok (.iconst 1, 1) := by decide +kernel
theorem dL_law_79 : decode cL_law 79 = .ok (.goto 4, 3) := by decide +kernel
theorem dL_law_82 : decode cL_law 82 = .ok (.iconst 0, 1) := by decide +kernel
theorem dL_law_83 : decode cL_law 83 = .ok (.iand, 1) := by decide +kernel
theorem dL_law_84 : decode cL_law 84 = .ok (.istore_n 3, 1) := by decide +kernel
theorem dL_law_85 : decode cL_law 85 = .ok (.iinc 4 1, 3) := by decide +kernel
theorem dL_law_88 : decode cL_law 88 = .ok (.goto (-69), 3) := by decide +kernel
theorem dL_law_91 : decode cL_law 91 = .ok (.aload_n 2, 1) := by decide +kernel
theorem dL_law_92 : decode cL_law 92 = .ok (.bipush 35, 2) := by decide +kernel
theorem dL_law_94 : decode cL_law 94 = .ok (.aload_n 0, 1) := by decide +kernel
theorem dL_law_95 : decode cL_law 95 = .ok (.bipush 10, 2) := by decide +kernel
theorem dL_law_97 : decode cL_law 97 = .ok (.iconst 5, 1) := by decide +kernel
theorem dL_law_98 : decode cL_law 98 = .ok (.invokestatic 124, 3) := by decide +kernel
theorem dL_law_101 : decode cL_law 101 = .ok (.iastore, 1) := by decide +kernel
theorem dL_law_102 : decode cL_law 102 = .ok (.aload_n 2, 1) := by decide +kernel
theorem dL_law_103 : decode cL_law 103 = .ok (.bipush 36, 2) := by decide +kernel
theorem dL_law_105 : decode cL_law 105 = .ok (.aload_n 0, 1) := by decide +kernel
theorem dL_law_106 : decode cL_law 106 = .ok (.bipush 11, 2) := by decide +kernel
theorem dL_law_108 : decode cL_law 108 = .ok (.bipush 6, 2) := by decide +kernel
theorem dL_law_110 : decode cL_law 110 = .ok (.invokestatic 124, 3) := by decide +kernel
theorem dL_law_113 : decode cL_law 113 = .ok (.iastore, 1) := by decide +kernel
theorem dL_law_114 : decode cL_law 114 = .ok (.iload_n 3, 1) := by decide +kernel
theorem dL_law_115 : decode cL_law 115 = .ok (.aload_n 1, 1) := by decide +kernel
theorem dL_law_116 : decode cL_law 116 = .ok (.aload_n 2, 1) := by decide +kernel
theorem dL_law_117 : decode cL_law 117 = .ok (.bipush 35, 2) := by decide +kernel
theorem dL_law_119 : decode cL_law 119 = .ok (.iaload, 1) := by decide +kernel
theorem dL_law_120 : decode cL_law 120 = .ok (.invokestatic 129, 3) := by decide +kernel
theorem dL_law_123 : decode cL_law 123 = .ok (.iconst 5, 1) := by decide +kernel
theorem dL_law_124 : decode cL_law 124 = .ok (.if_icmp .ne 41, 3) := by decide +kernel
theorem dL_law_127 : decode cL_law 127 = .ok (.aload_n 1, 1) := by decide +kernel
theorem dL_law_128 : decode cL_law 128 = .ok (.aload_n 2, 1) := by decide +kernel
theorem dL_law_129 : decode cL_law 129 = .ok (.bipush 36, 2) := by decide +kernel
theorem dL_law_131 : decode cL_law 131 = .ok (.iaload, 1) := by decide +kernel
theorem dL_law_132 : decode cL_law 132 = .ok (.invokestatic 129, 3) := by decide +kernel
theorem dL_law_135 : decode cL_law 135 = .ok (.bipush 6, 2) := by decide +kernel
theorem dL_law_137 : decode cL_law 137 = .ok (.if_icmp .ne 28, 3) := by decide +kernel
theorem dL_law_140 : decode cL_law 140 = .ok (.aload_n 1, 1) := by decide +kernel
theorem dL_law_141 : decode cL_law 141 = .ok (.bipush 7, 2) := by decide +kernel
theorem dL_law_143 : decode cL_law 143 = .ok (.invokestatic 127, 3) := by decide +kernel
theorem dL_law_146 : decode cL_law 146 = .ok (.ldc 17, 2) := by decide +kernel
theorem dL_law_148 : decode cL_law 148 = .ok (.if_icmp .ne 17, 3) := by decide +kernel
theorem dL_law_151 : decode cL_law 151 = .ok (.aload_n 1, 1) := by decide +kernel
theorem dL_law_152 : decode cL_law 152 = .ok (.iconst (-1), 1) := by decide +kernel
theorem dL_law_153 : decode cL_law 153 = .ok (.invokestatic 129, 3) := by decide +kernel
theorem dL_law_156 : decode cL_law 156 = .ok (.ldc 17, 2) := by decide +kernel
theorem dL_law_158 : decode cL_law 158 = .ok (.if_icmp .ne 7, 3) := by decide +kernel
theorem dL_law_161 : decode cL_law 161 = .ok (.iconst 1, 1) := by decide +kernel
theorem dL_law_162 : decode cL_law 162 = .ok (.goto 4, 3) := by decide +kernel
theorem dL_law_165 : decode cL_law 165 = .ok (.iconst 0, 1) := by decide +kernel
theorem dL_law_166 : decode cL_law 166 = .ok (.iand, 1) := by decide +kernel
theorem dL_law_167 : decode cL_law 167 = .ok (.istore_n 3, 1) := by decide +kernel
theorem dL_law_168 : decode cL_law 168 = .ok (.iload_n 3, 1) := by decide +kernel
theorem dL_law_169 : decode cL_law 169 = .ok (.ifCond .ne 5, 3) := by decide +kernel
theorem dL_law_172 : decode cL_law 172 = .ok (.iconst 0, 1) := by decide +kernel
theorem dL_law_173 : decode cL_law 173 = .ok (.ireturn, 1) := by decide +kernel
theorem dL_law_174 : decode cL_law 174 = .ok (.iconst 0, 1) := by decide +kernel
theorem dL_law_175 : decode cL_law 175 = .ok (.istore 4, 2) := by decide +kernel
theorem dL_law_177 : decode cL_law 177 = .ok (.iload 4, 2) := by decide +kernel
theorem dL_law_179 : decode cL_law 179 = .ok (.bipush 36, 2) := by decide +kernel
theorem dL_law_181 : decode cL_law 181 = .ok (.if_icmp .ge 447, 3) := by decide +kernel
theorem dL_law_184 : decode cL_law 184 = .ok (.bipush 20, 2) := by decide +kernel
theorem dL_law_186 : decode cL_law 186 = .ok (.bipush 6, 2) := by decide +kernel
theorem dL_law_188 : decode cL_law 188 = .ok (.iload 4, 2) := by decide +kernel
theorem dL_law_190 : decode cL_law 190 = .ok (.imul, 1) := by decide +kernel
theorem dL_law_191 : decode cL_law 191 = .ok (.iadd, 1) := by decide +kernel
theorem dL_law_192 : decode cL_law 192 = .ok (.istore 5, 2) := by decide +kernel
theorem dL_law_194 : decode cL_law 194 = .ok (.aload_n 0, 1) := by decide +kernel
theorem dL_law_195 : decode cL_law 195 = .ok (.iload 5, 2) := by decide +kernel
theorem dL_law_197 : decode cL_law 197 = .ok (.iconst 1, 1) := by decide +kernel
theorem dL_law_198 : decode cL_law 198 = .ok (.iadd, 1) := by decide +kernel
theorem dL_law_199 : decode cL_law 199 = .ok (.bipush 7, 2) := by decide +kernel
theorem dL_law_201 : decode cL_law 201 = .ok (.invokestatic 124, 3) := by decide +kernel
theorem dL_law_204 : decode cL_law 204 = .ok (.istore 6, 2) := by decide +kernel
theorem dL_law_206 : decode cL_law 206 = .ok (.aload_n 0, 1) := by decide +kernel
theorem dL_law_207 : decode cL_law 207 = .ok (.iload 5, 2) := by decide +kernel
theorem dL_law_209 : decode cL_law 209 = .ok (.iconst 2, 1) := by decide +kernel
theorem dL_law_210 : decode cL_law 210 = .ok (.iadd, 1) := by decide +kernel
theorem dL_law_211 : decode cL_law 211 = .ok (.iconst 2, 1) := by decide +kernel
theorem dL_law_212 : decode cL_law 212 = .ok (.invokestatic 124, 3) := by decide +kernel
theorem dL_law_215 : decode cL_law 215 = .ok (.ifCond .ne 15, 3) := by decide +kernel
theorem dL_law_218 : decode cL_law 218 = .ok (.aload_n 0, 1) := by decide +kernel
theorem dL_law_219 : decode cL_law 219 = .ok (.iload 5, 2) := by decide +kernel
theorem dL_law_221 : decode cL_law 221 = .ok (.iconst 3, 1) := by decide +kernel
theorem dL_law_222 : decode cL_law 222 = .ok (.iadd, 1) := by decide +kernel
theorem dL_law_223 : decode cL_law 223 = .ok (.iconst 3, 1) := by decide +kernel
theorem dL_law_224 : decode cL_law 224 = .ok (.invokestatic 124, 3) := by decide +kernel
theorem dL_law_227 : decode cL_law 227 = .ok (.goto 15, 3) := by decide +kernel
theorem dL_law_230 : decode cL_law 230 = .ok (.bipush 10, 2) := by decide +kernel
theorem dL_law_232 : decode cL_law 232 = .ok (.aload_n 0, 1) := by decide +kernel
theorem dL_law_233 : decode cL_law 233 = .ok (.iload 5, 2) := by decide +kernel
theorem dL_law_235 : decode cL_law 235 = .ok (.iconst 3, 1) := by decide +kernel
theorem dL_law_236 : decode cL_law 236 = .ok (.iadd, 1) := by decide +kernel
theorem dL_law_237 : decode cL_law 237 = .ok (.iconst 3, 1) := by decide +kernel
theorem dL_law_238 : decode cL_law 238 = .ok (.invokestatic 124, 3) := by decide +kernel
theorem dL_law_241 : decode cL_law 241 = .ok (.iadd, 1) := by decide +kernel
theorem dL_law_242 : decode cL_law 242 = .ok (.istore 7, 2) := by decide +kernel
theorem dL_law_244 : decode cL_law 244 = .ok (.aload_n 0, 1) := by decide +kernel
theorem dL_law_245 : decode cL_law 245 = .ok (.iload 5, 2) := by decide +kernel
theorem dL_law_247 : decode cL_law 247 = .ok (.iconst 4, 1) := by decide +kernel
theorem dL_law_248 : decode cL_law 248 = .ok (.iadd, 1) := by decide +kernel
theorem dL_law_249 : decode cL_law 249 = .ok (.iconst 5, 1) := by decide +kernel
theorem dL_law_250 : decode cL_law 250 = .ok (.invokestatic 124, 3) := by decide +kernel
theorem dL_law_253 : decode cL_law 253 = .ok (.istore 8, 2) := by decide +kernel
theorem dL_law_255 : decode cL_law 255 = .ok (.aload_n 2, 1) := by decide +kernel
theorem dL_law_256 : decode cL_law 256 = .ok (.iload 6, 2) := by decide +kernel
theorem dL_law_258 : decode cL_law 258 = .ok (.invokestatic 88, 3) := by decide +kernel
theorem dL_law_261 : decode cL_law 261 = .ok (.istore 9, 2) := by decide +kernel
theorem dL_law_263 : decode cL_law 263 = .ok (.aload_n 0, 1) := by decide +kernel
theorem dL_law_264 : decode cL_law 264 = .ok (.iload 5, 2) := by decide +kernel
theorem dL_law_266 : decode cL_law 266 = .ok (.bipush 12, 2) := by decide +kernel
theorem dL_law_268 : decode cL_law 268 = .ok (.invokestatic 124, 3) := by decide +kernel
theorem dL_law_271 : decode cL_law 271 = .ok (.istore 10, 2) := by decide +kernel
theorem dL_law_273 : decode cL_law 273 = .ok (.iload 10, 2) := by decide +kernel
theorem dL_law_275 : decode cL_law 275 = .ok (.iconst 3, 1) := by decide +kernel
theorem dL_law_276 : decode cL_law 276 = .ok (.if_icmp .ge 51, 3) := by decide +kernel
theorem dL_law_279 : decode cL_law 279 = .ok (.aload_n 0, 1) := by decide +kernel
theorem dL_law_280 : decode cL_law 280 = .ok (.iload 5, 2) := by decide +kernel
theorem dL_law_282 : decode cL_law 282 = .ok (.iconst 5, 1) := by decide +kernel
theorem dL_law_283 : decode cL_law 283 = .ok (.iadd, 1) := by decide +kernel
theorem dL_law_284 : decode cL_law 284 = .ok (.bipush 8, 2) := by decide +kernel
theorem dL_law_286 : decode cL_law 286 = .ok (.invokestatic 124, 3) := by decide +kernel
theorem dL_law_289 : decode cL_law 289 = .ok (.istore 11, 2) := by decide +kernel
theorem dL_law_291 : decode cL_law 291 = .ok (.aload_n 1, 1) := by decide +kernel
theorem dL_law_292 : decode cL_law 292 = .ok (.iload 6, 2) := by decide +kernel
theorem dL_law_294 : decode cL_law 294 = .ok (.iload 7, 2) := by decide +kernel
theorem dL_law_296 : decode cL_law 296 = .ok (.iload 8, 2) := by decide +kernel
theorem dL_law_298 : decode cL_law 298 = .ok (.iload 11, 2) := by decide +kernel
theorem dL_law_300 : decode cL_law 300 = .ok (.invokestatic 131, 3) := by decide +kernel
theorem dL_law_303 : decode cL_law 303 = .ok (.aload_n 2, 1) := by decide +kernel
theorem dL_law_304 : decode cL_law 304 = .ok (.iload 9, 2) := by decide +kernel
theorem dL_law_306 : decode cL_law 306 = .ok (.iload 7, 2) := by decide +kernel
theorem dL_law_308 : decode cL_law 308 = .ok (.iload 8, 2) := by decide +kernel
theorem dL_law_310 : decode cL_law 310 = .ok (.iload 11, 2) := by decide +kernel
theorem dL_law_312 : decode cL_law 312 = .ok (.invokestatic 84, 3) := by decide +kernel
theorem dL_law_315 : decode cL_law 315 = .ok (.if_icmp .ne 7, 3) := by decide +kernel
theorem dL_law_318 : decode cL_law 318 = .ok (.iconst 1, 1) := by decide +kernel
theorem dL_law_319 : decode cL_law 319 = .ok (.goto 4, 3) := by decide +kernel
theorem dL_law_322 : decode cL_law 322 = .ok (.iconst 0, 1) := by decide +kernel
theorem dL_law_323 : decode cL_law 323 = .ok (.istore_n 3, 1) := by decide +kernel
theorem dL_law_324 : decode cL_law 324 = .ok (.goto 244, 3) := by decide +kernel
theorem dL_law_327 : decode cL_law 327 = .ok (.iload 10, 2) := by decide +kernel
theorem dL_law_329 : decode cL_law 329 = .ok (.bipush 6, 2) := by decide +kernel
theorem dL_law_331 : decode cL_law 331 = .ok (.if_icmp .ge 37, 3) := by decide +kernel
theorem dL_law_334 : decode cL_law 334 = .ok (.aload_n 1, 1) := by decide +kernel
theorem dL_law_335 : decode cL_law 335 = .ok (.iload 6, 2) := by decide +kernel
theorem dL_law_337 : decode cL_law 337 = .ok (.iload 7, 2) := by decide +kernel
theorem dL_law_339 : decode cL_law 339 = .ok (.iload 8, 2) := by decide +kernel
theorem dL_law_341 : decode cL_law 341 = .ok (.invokestatic 134, 3) := by decide +kernel
theorem dL_law_344 : decode cL_law 344 = .ok (.aload_n 2, 1) := by decide +kernel
theorem dL_law_345 : decode cL_law 345 = .ok (.iload 6, 2) := by decide +kernel
theorem dL_law_347 : decode cL_law 347 = .ok (.iload 7, 2) := by decide +kernel
theorem dL_law_349 : decode cL_law 349 = .ok (.iload 8, 2) := by decide +kernel
theorem dL_law_351 : decode cL_law 351 = .ok (.iload 9, 2) := by decide +kernel
theorem dL_law_353 : decode cL_law 353 = .ok (.invokestatic 91, 3) := by decide +kernel
theorem dL_law_356 : decode cL_law 356 = .ok (.if_icmp .ne 7, 3) := by decide +kernel
theorem dL_law_359 : decode cL_law 359 = .ok (.iconst 1, 1) := by decide +kernel
theorem dL_law_360 : decode cL_law 360 = .ok (.goto 4, 3) := by decide +kernel
theorem dL_law_363 : decode cL_law 363 = .ok (.iconst 0, 1) := by decide +kernel
theorem dL_law_364 : decode cL_law 364 = .ok (.istore_n 3, 1) := by decide +kernel
theorem dL_law_365 : decode cL_law 365 = .ok (.goto 203, 3) := by decide +kernel
theorem dL_law_368 : decode cL_law 368 = .ok (.iload 10, 2) := by decide +kernel
theorem dL_law_370 : decode cL_law 370 = .ok (.bipush 6, 2) := by decide +kernel
theorem dL_law_372 : decode cL_law 372 = .ok (.if_icmp .ne 31, 3) := by decide +kernel
theorem dL_law_375 : decode cL_law 375 = .ok (.aload_n 1, 1) := by decide +kernel
theorem dL_law_376 : decode cL_law 376 = .ok (.iload 6, 2) := by decide +kernel
theorem dL_law_378 : decode cL_law 378 = .ok (.iload 7, 2) := by decide +kernel
theorem dL_law_380 : decode cL_law 380 = .ok (.invokestatic 137, 3) := by decide +kernel
theorem dL_law_383 : decode cL_law 383 = .ok (.aload_n 2, 1) := by decide +kernel
theorem dL_law_384 : decode cL_law 384 = .ok (.iload 6, 2) := by decide +kernel
theorem dL_law_386 : decode cL_law 386 = .ok (.iload 7, 2) := by decide +kernel
theorem dL_law_388 : decode cL_law 388 = .ok (.invokestatic 112, 3) := by decide +kernel
theorem dL_law_391 : decode cL_law 391 = .ok (.if_icmp .ne 7, 3) := by decide +kernel
theorem dL_law_394 : decode cL_law 394 = .ok (.iconst 1, 1) := by decide +kernel
theorem dL_law_395 : decode cL_law 395 = .ok (.goto 4, 3) := by decide +kernel
theorem dL_law_398 : decode cL_law 398 = .ok (.iconst 0, 1) := by decide +kernel
theorem dL_law_399 : decode cL_law 399 = .ok (.istore_n 3, 1) := by decide +kernel
theorem dL_law_400 : decode cL_law 400 = .ok (.goto 168, 3) := by decide +kernel
theorem dL_law_403 : decode cL_law 403 = .ok (.iload 10, 2) := by decide +kernel
theorem dL_law_405 : decode cL_law 405 = .ok (.bipush 7, 2) := by decide +kernel
theorem dL_law_407 : decode cL_law 407 = .ok (.if_icmp .ne 41, 3) := by decide +kernel
theorem dL_law_410 : decode cL_law 410 = .ok (.aload_n 0, 1) := by decide +kernel
theorem dL_law_411 : decode cL_law 411 = .ok (.iload 5, 2) := by decide +kernel
theorem dL_law_413 : decode cL_law 413 = .ok (.iconst 5, 1) := by decide +kernel
theorem dL_law_414 : decode cL_law 414 = .ok (.iadd, 1) := by decide +kernel
theorem dL_law_415 : decode cL_law 415 = .ok (.bipush 6, 2) := by decide +kernel
theorem dL_law_417 : decode cL_law 417 = .ok (.invokestatic 124, 3) := by decide +kernel
theorem dL_law_420 : decode cL_law 420 = .ok (.ifCond .ne 28, 3) := by decide +kernel
theorem dL_law_423 : decode cL_law 423 = .ok (.aload_n 2, 1) := by decide +kernel
theorem dL_law_424 : decode cL_law 424 = .ok (.iload 9, 2) := by decide +kernel
theorem dL_law_426 : decode cL_law 426 = .ok (.iconst 1, 1) := by decide +kernel
theorem dL_law_427 : decode cL_law 427 = .ok (.iastore, 1) := by decide +kernel
theorem dL_law_428 : decode cL_law 428 = .ok (.aload_n 1, 1) := by decide +kernel
theorem dL_law_429 : decode cL_law 429 = .ok (.iload 6, 2) := by decide +kernel
theorem dL_law_431 : decode cL_law 431 = .ok (.invokestatic 139, 3) := by decide +kernel
theorem dL_law_434 : decode cL_law 434 = .ok (.bipush 121, 2) := by decide +kernel
theorem dL_law_436 : decode cL_law 436 = .ok (.if_icmp .ne 7, 3) := by decide +kernel
theorem dL_law_439 : decode cL_law 439 = .ok (.iconst 1, 1) := by decide +kernel
theorem dL_law_440 : decode cL_law 440 = .ok (.goto 4, 3) := by decide +kernel
theorem dL_law_443 : decode cL_law 443 = .ok (.iconst 0, 1) := by decide +kernel
theorem dL_law_444 : decode cL_law 444 = .ok (.istore_n 3, 1) := by decide +kernel
theorem dL_law_445 : decode cL_law 445 = .ok (.goto 123, 3) := by decide +kernel
theorem dL_law_448 : decode cL_law 448 = .ok (.iload 10, 2) := by decide +kernel
theorem dL_law_450 : decode cL_law 450 = .ok (.bipush 8, 2) := by decide +kernel
theorem dL_law_452 : decode cL_law 452 = .ok (.if_icmp .ne 116, 3) := by decide +kernel
theorem dL_law_455 : decode cL_law 455 = .ok (.iconst 5, 1) := by decide +kernel
theorem dL_law_456 : decode cL_law 456 = .ok (.aload_n 0, 1) := by decide +kernel
theorem dL_law_457 : decode cL_law 457 = .ok (.iload 5, 2) := by decide +kernel
theorem dL_law_459 : decode cL_law 459 = .ok (.iconst 1, 1) := by decide +kernel
theorem dL_law_460 : decode cL_law 460 = .ok (.iadd, 1) := by decide +kernel
theorem dL_law_461 : decode cL_law 461 = .ok (.iconst 2, 1) := by decide +kernel
theorem dL_law_462 : decode cL_law 462 = .ok (.invokestatic 124, 3) := by decide +kernel
theorem dL_law_465 : decode cL_law 465 = .ok (.iadd, 1) := by decide +kernel
theorem dL_law_466 : decode cL_law 466 = .ok (.istore 11, 2) := by decide +kernel
theorem dL_law_468 : decode cL_law 468 = .ok (.aload_n 0, 1) := by decide +kernel
theorem dL_law_469 : decode cL_law 469 = .ok (.iload 5, 2) := by decide +kernel
theorem dL_law_471 : decode cL_law 471 = .ok (.iconst 5, 1) := by decide +kernel
theorem dL_law_472 : decode cL_law 472 = .ok (.iadd, 1) := by decide +kernel
theorem dL_law_473 : decode cL_law 473 = .ok (.iconst 4, 1) := by decide +kernel
theorem dL_law_474 : decode cL_law 474 = .ok (.invokestatic 124, 3) := by decide +kernel
theorem dL_law_477 : decode cL_law 477 = .ok (.istore 12, 2) := by decide +kernel
theorem dL_law_479 : decode cL_law 479 = .ok (.aload_n 2, 1) := by decide +kernel
theorem dL_law_480 : decode cL_law 480 = .ok (.bipush 60, 2) := by decide +kernel
theorem dL_law_482 : decode cL_law 482 = .ok (.iconst 4, 1) := by decide +kernel
theorem dL_law_483 : decode cL_law 483 = .ok (.iload 11, 2) := by decide +kernel
theorem dL_law_485 : decode cL_law 485 = .ok (.iconst 5, 1) := by decide +kernel
theorem dL_law_486 : decode cL_law 486 = .ok (.isub, 1) := by decide +kernel
theorem dL_law_487 : decode cL_law 487 = .ok (.imul, 1) := by decide +kernel
theorem dL_law_488 : decode cL_law 488 = .ok (.iadd, 1) := by decide +kernel
theorem dL_law_489 : decode cL_law 489 = .ok (.iload 12, 2) := by decide +kernel
theorem dL_law_491 : decode cL_law 491 = .ok (.iadd, 1) := by decide +kernel
theorem dL_law_492 : decode cL_law 492 = .ok (.iaload, 1) := by decide +kernel
theorem dL_law_493 : decode cL_law 493 = .ok (.istore 13, 2) := by decide +kernel
theorem dL_law_495 : decode cL_law 495 = .ok (.iload 12, 2) := by decide +kernel
theorem dL_law_497 : decode cL_law 497 = .ok (.ifCond .ne 8, 3) := by decide +kernel
theorem dL_law_500 : decode cL_law 500 = .ok (.iload 8, 2) := by decide +kernel
theorem dL_law_502 : decode cL_law 502 = .ok (.goto 7, 3) := by decide +kernel
theorem dL_law_505 : decode cL_law 505 = .ok (.iload 8, 2) := by decide +kernel
theorem dL_law_507 : decode cL_law 507 = .ok (.iconst 2, 1) := by decide +kernel
theorem dL_law_508 : decode cL_law 508 = .ok (.irem, 1) := by decide +kernel
theorem dL_law_509 : decode cL_law 509 = .ok (.istore 14, 2) := by decide +kernel
theorem dL_law_511 : decode cL_law 511 = .ok (.aload_n 2, 1) := by decide +kernel
theorem dL_law_512 : decode cL_law 512 = .ok (.bipush 60, 2) := by decide +kernel
theorem dL_law_514 : decode cL_law 514 = .ok (.iconst 4, 1) := by decide +kernel
theorem dL_law_515 : decode cL_law 515 = .ok (.iload 11, 2) := by decide +kernel
theorem dL_law_517 : decode cL_law 517 = .ok (.iconst 5, 1) := by decide +kernel
theorem dL_law_518 : decode cL_law 518 = .ok (.isub, 1) := by decide +kernel
theorem dL_law_519 : decode cL_law 519 = .ok (.imul, 1) := by decide +kernel
theorem dL_law_520 : decode cL_law 520 = .ok (.iadd, 1) := by decide +kernel
theorem dL_law_521 : decode cL_law 521 = .ok (.iload 12, 2) := by decide +kernel
theorem dL_law_523 : decode cL_law 523 = .ok (.iadd, 1) := by decide +kernel
theorem dL_law_524 : decode cL_law 524 = .ok (.iconst 1, 1) := by decide +kernel
theorem dL_law_525 : decode cL_law 525 = .ok (.iastore, 1) := by decide +kernel
theorem dL_law_526 : decode cL_law 526 = .ok (.aload_n 2, 1) := by decide +kernel
theorem dL_law_527 : decode cL_law 527 = .ok (.bipush 40, 2) := by decide +kernel
theorem dL_law_529 : decode cL_law 529 = .ok (.iconst 4, 1) := by decide +kernel
theorem dL_law_530 : decode cL_law 530 = .ok (.iload 11, 2) := by decide +kernel
theorem dL_law_532 : decode cL_law 532 = .ok (.iconst 5, 1) := by decide +kernel
theorem dL_law_533 : decode cL_law 533 = .ok (.isub, 1) := by decide +kernel
theorem dL_law_534 : decode cL_law 534 = .ok (.imul, 1) := by decide +kernel
theorem dL_law_535 : decode cL_law 535 = .ok (.iadd, 1) := by decide +kernel
theorem dL_law_536 : decode cL_law 536 = .ok (.iload 12, 2) := by decide +kernel
theorem dL_law_538 : decode cL_law 538 = .ok (.iadd, 1) := by decide +kernel
theorem dL_law_539 : decode cL_law 539 = .ok (.iload 14, 2) := by decide +kernel
theorem dL_law_541 : decode cL_law 541 = .ok (.iastore, 1) := by decide +kernel
theorem dL_law_542 : decode cL_law 542 = .ok (.aload_n 1, 1) := by decide +kernel
theorem dL_law_543 : decode cL_law 543 = .ok (.iload 11, 2) := by decide +kernel
theorem dL_law_545 : decode cL_law 545 = .ok (.ldc 141, 2) := by decide +kernel
theorem dL_law_547 : decode cL_law 547 = .ok (.iload 12, 2) := by decide +kernel
theorem dL_law_549 : decode cL_law 549 = .ok (.invokevirtual 143, 3) := by decide +kernel
theorem dL_law_552 : decode cL_law 552 = .ok (.iload 14, 2) := by decide +kernel
theorem dL_law_554 : decode cL_law 554 = .ok (.invokestatic 148, 3) := by decide +kernel
theorem dL_law_557 : decode cL_law 557 = .ok (.iload 13, 2) := by decide +kernel
theorem dL_law_559 : decode cL_law 559 = .ok (.if_icmp .ne 7, 3) := by decide +kernel
theorem dL_law_562 : decode cL_law 562 = .ok (.iconst 1, 1) := by decide +kernel
theorem dL_law_563 : decode cL_law 563 = .ok (.goto 4, 3) := by decide +kernel
theorem dL_law_566 : decode cL_law 566 = .ok (.iconst 0, 1) := by decide +kernel
theorem dL_law_567 : decode cL_law 567 = .ok (.istore_n 3, 1) := by decide +kernel
theorem dL_law_568 : decode cL_law 568 = .ok (.iload_n 3, 1) := by decide +kernel
theorem dL_law_569 : decode cL_law 569 = .ok (.ifCond .eq 51, 3) := by decide +kernel
theorem dL_law_572 : decode cL_law 572 = .ok (.aload_n 1, 1) := by decide +kernel
theorem dL_law_573 : decode cL_law 573 = .ok (.iload 6, 2) := by decide +kernel
theorem dL_law_575 : decode cL_law 575 = .ok (.iload 7, 2) := by decide +kernel
theorem dL_law_577 : decode cL_law 577 = .ok (.invokestatic 151, 3) := by decide +kernel
theorem dL_law_580 : decode cL_law 580 = .ok (.aload_n 2, 1) := by decide +kernel
theorem dL_law_581 : decode cL_law 581 = .ok (.iload 6, 2) := by decide +kernel
theorem dL_law_583 : decode cL_law 583 = .ok (.iload 7, 2) := by decide +kernel
theorem dL_law_585 : decode cL_law 585 = .ok (.invokestatic 102, 3) := by decide +kernel
theorem dL_law_588 : decode cL_law 588 = .ok (.if_icmp .ne 32, 3) := by decide +kernel
theorem dL_law_591 : decode cL_law 591 = .ok (.aload_n 1, 1) := by decide +kernel
theorem dL_law_592 : decode cL_law 592 = .ok (.iload 6, 2) := by decide +kernel
theorem dL_law_594 : decode cL_law 594 = .ok (.iload 7, 2) := by decide +kernel
theorem dL_law_596 : decode cL_law 596 = .ok (.invokestatic 153, 3) := by decide +kernel
theorem dL_law_599 : decode cL_law 599 = .ok (.aload_n 2, 1) := by decide +kernel
theorem dL_law_600 : decode cL_law 600 = .ok (.iload 6, 2) := by decide +kernel
theorem dL_law_602 : decode cL_law 602 = .ok (.iload 7, 2) := by decide +kernel
theorem dL_law_604 : decode cL_law 604 = .ok (.invokestatic 109, 3) := by decide +kernel
theorem dL_law_607 : decode cL_law 607 = .ok (.if_icmp .ne 13, 3) := by decide +kernel
theorem dL_law_610 : decode cL_law 610 = .ok (.aload_n 1, 1) := by decide +kernel
theorem dL_law_611 : decode cL_law 611 = .ok (.aload_n 2, 1) := by decide +kernel
theorem dL_law_612 : decode cL_law 612 = .ok (.iload 6, 2) := by decide +kernel
theorem dL_law_614 : decode cL_law 614 = .ok (.invokestatic 155, 3) := by decide +kernel
theorem dL_law_617 : decode cL_law 617 = .ok (.ifCond .ne 5, 3) := by decide +kernel
theorem dL_law_620 : decode cL_law 620 = .ok (.iconst 0, 1) := by decide +kernel
theorem dL_law_621 : decode cL_law 621 = .ok (.ireturn, 1) := by decide +kernel
theorem dL_law_622 : decode cL_law 622 = .ok (.iinc 4 1, 3) := by decide +kernel
theorem dL_law_625 : decode cL_law 625 = .ok (.goto (-448), 3) := by decide +kernel
theorem dL_law_628 : decode cL_law 628 = .ok (.aload_n 1, 1) := by decide +kernel
theorem dL_law_629 : decode cL_law 629 = .ok (.invokevirtual 159, 3) := by decide +kernel
theorem dL_law_632 : decode cL_law 632 = .ok (.ifCond .eq 204, 3) := by decide +kernel
theorem dL_law_635 : decode cL_law 635 = .ok (.aload_n 1, 1) := by decide +kernel
theorem dL_law_636 : decode cL_law 636 = .ok (.bipush 7, 2) := by decide +kernel
theorem dL_law_638 : decode cL_law 638 = .ok (.iconst 0, 1) := by decide +kernel
theorem dL_law_639 : decode cL_law 639 = .ok (.invokestatic 151, 3) := by decide +kernel
theorem dL_law_642 : decode cL_law 642 = .ok (.ldc 17, 2) := by decide +kernel
theorem dL_law_644 : decode cL_law 644 = .ok (.if_icmp .ne 192, 3) := by decide +kernel
theorem dL_law_647 : decode cL_law 647 = .ok (.aload_n 1, 1) := by decide +kernel
theorem dL_law_648 : decode cL_law 648 = .ok (.iconst 0, 1) := by decide +kernel
theorem dL_law_649 : decode cL_law 649 = .ok (.bipush 20, 2) := by decide +kernel
theorem dL_law_651 : decode cL_law 651 = .ok (.invokestatic 153, 3) := by decide +kernel
theorem dL_law_654 : decode cL_law 654 = .ok (.ldc 17, 2) := by decide +kernel
theorem dL_law_656 : decode cL_law 656 = .ok (.if_icmp .ne 180, 3) := by decide +kernel
theorem dL_law_659 : decode cL_law 659 = .ok (.aload_n 1, 1) := by decide +kernel
theorem dL_law_660 : decode cL_law 660 = .ok (.iconst 0, 1) := by decide +kernel
theorem dL_law_661 : decode cL_law 661 = .ok (.iconst 0, 1) := by decide +kernel
theorem dL_law_662 : decode cL_law 662 = .ok (.sipush 10000, 3) := by decide +kernel
theorem dL_law_665 : decode cL_law 665 = .ok (.invokestatic 134, 3) := by decide +kernel
theorem dL_law_668 : decode cL_law 668 = .ok (.ldc 20, 2) := by decide +kernel
theorem dL_law_670 : decode cL_law 670 = .ok (.if_icmp .ne 166, 3) := by decide +kernel
theorem dL_law_673 : decode cL_law 673 = .ok (.aload_n 1, 1) := by decide +kernel
theorem dL_law_674 : decode cL_law 674 = .ok (.iconst 0, 1) := by decide +kernel
theorem dL_law_675 : decode cL_law 675 = .ok (.iconst 0, 1) := by decide +kernel
theorem dL_law_676 : decode cL_law 676 = .ok (.iconst 0, 1) := by decide +kernel
theorem dL_law_677 : decode cL_law 677 = .ok (.bipush 8, 2) := by decide +kernel
theorem dL_law_679 : decode cL_law 679 = .ok (.invokestatic 131, 3) := by decide +kernel
theorem dL_law_682 : decode cL_law 682 = .ok (.ldc 20, 2) := by decide +kernel
theorem dL_law_684 : decode cL_law 684 = .ok (.if_icmp .ne 152, 3) := by decide +kernel
theorem dL_law_687 : decode cL_law 687 = .ok (.aload_n 1, 1) := by decide +kernel
theorem dL_law_688 : decode cL_law 688 = .ok (.iconst (-1), 1) := by decide +kernel
theorem dL_law_689 : decode cL_law 689 = .ok (.iconst 0, 1) := by decide +kernel
theorem dL_law_690 : decode cL_law 690 = .ok (.iconst 0, 1) := by decide +kernel
theorem dL_law_691 : decode cL_law 691 = .ok (.iconst 0, 1) := by decide +kernel
theorem dL_law_692 : decode cL_law 692 = .ok (.invokestatic 131, 3) := by decide +kernel
theorem dL_law_695 : decode cL_law 695 = .ok (.ldc 17, 2) := by decide +kernel
theorem dL_law_697 : decode cL_law 697 = .ok (.if_icmp .ne 139, 3) := by decide +kernel
theorem dL_law_700 : decode cL_law 700 = .ok (.aload_n 1, 1) := by decide +kernel
theorem dL_law_701 : decode cL_law 701 = .ok (.iconst 0, 1) := by decide +kernel
theorem dL_law_702 : decode cL_law 702 = .ok (.iconst (-1), 1) := by decide +kernel
theorem dL_law_703 : decode cL_law 703 = .ok (.invokestatic 137, 3) := by decide +kernel
theorem dL_law_706 : decode cL_law 706 = .ok (.ldc 17, 2) := by decide +kernel
theorem dL_law_708 : decode cL_law 708 = .ok (.if_icmp .ne 128, 3) := by decide +kernel
theorem dL_law_711 : decode cL_law 711 = .ok (.aload_n 1, 1) := by decide +kernel
theorem dL_law_712 : decode cL_law 712 = .ok (.bipush 7, 2) := by decide +kernel
theorem dL_law_714 : decode cL_law 714 = .ok (.invokestatic 139, 3) := by decide +kernel
theorem dL_law_717 : decode cL_law 717 = .ok (.ldc 17, 2) := by decide +kernel
theorem dL_law_719 : decode cL_law 719 = .ok (.if_icmp .ne 117, 3) := by decide +kernel
theorem dL_law_722 : decode cL_law 722 = .ok (.aload_n 1, 1) := by decide +kernel
theorem dL_law_723 : decode cL_law 723 = .ok (.iconst 0, 1) := by decide +kernel
theorem dL_law_724 : decode cL_law 724 = .ok (.bipush 7, 2) := by decide +kernel
theorem dL_law_726 : decode cL_law 726 = .ok (.invokestatic 163, 3) := by decide +kernel
theorem dL_law_729 : decode cL_law 729 = .ok (.ldc 17, 2) := by decide +kernel
theorem dL_law_731 : decode cL_law 731 = .ok (.if_icmp .ne 105, 3) := by decide +kernel
theorem dL_law_734 : decode cL_law 734 = .ok (.aload_n 1, 1) := by decide +kernel
theorem dL_law_735 : decode cL_law 735 = .ok (.bipush 7, 2) := by decide +kernel
theorem dL_law_737 : decode cL_law 737 = .ok (.invokestatic 120, 3) := by decide +kernel
theorem dL_law_740 : decode cL_law 740 = .ok (.ldc 17, 2) := by decide +kernel
theorem dL_law_742 : decode cL_law 742 = .ok (.if_icmp .ne 94, 3) := by decide +kernel
theorem dL_law_745 : decode cL_law 745 = .ok (.aload_n 1, 1) := by decide +kernel
theorem dL_law_746 : decode cL_law 746 = .ok (.iconst 0, 1) := by decide +kernel
theorem dL_law_747 : decode cL_law 747 = .ok (.bipush 20, 2) := by decide +kernel
theorem dL_law_749 : decode cL_law 749 = .ok (.invokestatic 118, 3) := by decide +kernel
theorem dL_law_752 : decode cL_law 752 = .ok (.ldc 17, 2) := by decide +kernel
theorem dL_law_754 : decode cL_law 754 = .ok (.if_icmp .ne 82, 3) := by decide +kernel
theorem dL_law_757 : decode cL_law 757 = .ok (.aload_n 1, 1) := by decide +kernel
theorem dL_law_758 : decode cL_law 758 = .ok (.iconst 0, 1) := by decide +kernel
theorem dL_law_759 : decode cL_law 759 = .ok (.bipush 19, 2) := by decide +kernel
theorem dL_law_761 : decode cL_law 761 = .ok (.invokestatic 118, 3) := by decide +kernel
theorem dL_law_764 : decode cL_law 764 = .ok (.ldc 62, 2) := by decide +kernel
theorem dL_law_766 : decode cL_law 766 = .ok (.if_icmp .ne 70, 3) := by decide +kernel
theorem dL_law_769 : decode cL_law 769 = .ok (.aload_n 1, 1) := by decide +kernel
theorem dL_law_770 : decode cL_law 770 = .ok (.iconst 0, 1) := by decide +kernel
theorem dL_law_771 : decode cL_law 771 = .ok (.bipush 103, 2) := by decide +kernel
theorem dL_law_773 : decode cL_law 773 = .ok (.iconst 0, 1) := by decide +kernel
theorem dL_law_774 : decode cL_law 774 = .ok (.invokestatic 148, 3) := by decide +kernel
theorem dL_law_777 : decode cL_law 777 = .ok (.ldc 62, 2) := by decide +kernel
theorem dL_law_779 : decode cL_law 779 = .ok (.if_icmp .ne 57, 3) := by decide +kernel
theorem dL_law_782 : decode cL_law 782 = .ok (.aload_n 1, 1) := by decide +kernel
theorem dL_law_783 : decode cL_law 783 = .ok (.iconst 5, 1) := by decide +kernel
theorem dL_law_784 : decode cL_law 784 = .ok (.bipush 120, 2) := by decide +kernel
theorem dL_law_786 : decode cL_law 786 = .ok (.iconst 0, 1) := by decide +kernel
theorem dL_law_787 : decode cL_law 787 = .ok (.invokestatic 148, 3) := by decide +kernel
theorem dL_law_790 : decode cL_law 790 = .ok (.ldc 20, 2) := by decide +kernel
theorem dL_law_792 : decode cL_law 792 = .ok (.if_icmp .ne 44, 3) := by decide +kernel
theorem dL_law_795 : decode cL_law 795 = .ok (.aload_n 1, 1) := by decide +kernel
theorem dL_law_796 : decode cL_law 796 = .ok (.iconst 5, 1) := by decide +kernel
theorem dL_law_797 : decode cL_law 797 = .ok (.bipush 104, 2) := by decide +kernel
theorem dL_law_799 : decode cL_law 799 = .ok (.iconst 2, 1) := by decide +kernel
theorem dL_law_800 : decode cL_law 800 = .ok (.invokestatic 148, 3) := by decide +kernel
theorem dL_law_803 : decode cL_law 803 = .ok (.ldc 20, 2) := by decide +kernel
theorem dL_law_805 : decode cL_law 805 = .ok (.if_icmp .ne 31, 3) := by decide +kernel
theorem dL_law_808 : decode cL_law 808 = .ok (.aload_n 1, 1) := by decide +kernel
theorem dL_law_809 : decode cL_law 809 = .ok (.bipush 7, 2) := by decide +kernel
theorem dL_law_811 : decode cL_law 811 = .ok (.bipush 103, 2) := by decide +kernel
theorem dL_law_813 : decode cL_law 813 = .ok (.iconst 0, 1) := by decide +kernel
theorem dL_law_814 : decode cL_law 814 = .ok (.invokestatic 148, 3) := by decide +kernel
theorem dL_law_817 : decode cL_law 817 = .ok (.ldc 17, 2) := by decide +kernel
theorem dL_law_819 : decode cL_law 819 = .ok (.if_icmp .ne 17, 3) := by decide +kernel
theorem dL_law_822 : decode cL_law 822 = .ok (.aload_n 1, 1) := by decide +kernel
theorem dL_law_823 : decode cL_law 823 = .ok (.iconst 0, 1) := by decide +kernel
theorem dL_law_824 : decode cL_law 824 = .ok (.invokestatic 165, 3) := by decide +kernel
theorem dL_law_827 : decode cL_law 827 = .ok (.ldc 20, 2) := by decide +kernel
theorem dL_law_829 : decode cL_law 829 = .ok (.if_icmp .ne 7, 3) := by decide +kernel
theorem dL_law_832 : decode cL_law 832 = .ok (.iconst 1, 1) := by decide +kernel
theorem dL_law_833 : decode cL_law 833 = .ok (.goto 4, 3) := by decide +kernel
theorem dL_law_836 : decode cL_law 836 = .ok (.iconst 0, 1) := by decide +kernel
theorem dL_law_837 : decode cL_law 837 = .ok (.istore_n 3, 1) := by decide +kernel
theorem dL_law_838 : decode cL_law 838 = .ok (.iload_n 3, 1) := by decide +kernel
theorem dL_law_839 : decode cL_law 839 = .ok (.aload_n 1, 1) := by decide +kernel
theorem dL_law_840 : decode cL_law 840 = .ok (.iconst 0, 1) := by decide +kernel
theorem dL_law_841 : decode cL_law 841 = .ok (.iconst 0, 1) := by decide +kernel
theorem dL_law_842 : decode cL_law 842 = .ok (.invokestatic 163, 3) := by decide +kernel
theorem dL_law_845 : decode cL_law 845 = .ok (.bipush 110, 2) := by decide +kernel
theorem dL_law_847 : decode cL_law 847 = .ok (.if_icmp .ne 38, 3) := by decide +kernel
theorem dL_law_850 : decode cL_law 850 = .ok (.aload_n 1, 1) := by decide +kernel
theorem dL_law_851 : decode cL_law 851 = .ok (.iconst 0, 1) := by decide +kernel
theorem dL_law_852 : decode cL_law 852 = .ok (.aload_n 2, 1) := by decide +kernel
theorem dL_law_853 : decode cL_law 853 = .ok (.bipush 10, 2) := by decide +kernel
theorem dL_law_855 : decode cL_law 855 = .ok (.iaload, 1) := by decide +kernel
theorem dL_law_856 : decode cL_law 856 = .ok (.invokestatic 163, 3) := by decide +kernel
theorem dL_law_859 : decode cL_law 859 = .ok (.bipush 121, 2) := by decide +kernel
theorem dL_law_861 : decode cL_law 861 = .ok (.if_icmp .ne 24, 3) := by decide +kernel
theorem dL_law_864 : decode cL_law 864 = .ok (.aload_n 1, 1) := by decide +kernel
theorem dL_law_865 : decode cL_law 865 = .ok (.iconst 5, 1) := by decide +kernel
theorem dL_law_866 : decode cL_law 866 = .ok (.invokestatic 165, 3) := by decide +kernel
theorem dL_law_869 : decode cL_law 869 = .ok (.ifCond .ne 16, 3) := by decide +kernel
theorem dL_law_872 : decode cL_law 872 = .ok (.aload_n 1, 1) := by decide +kernel
theorem dL_law_873 : decode cL_law 873 = .ok (.iconst 5, 1) := by decide +kernel
theorem dL_law_874 : decode cL_law 874 = .ok (.invokestatic 165, 3) := by decide +kernel
theorem dL_law_877 : decode cL_law 877 = .ok (.iconst 1, 1) := by decide +kernel
theorem dL_law_878 : decode cL_law 878 = .ok (.if_icmp .ne 7, 3) := by decide +kernel
theorem dL_law_881 : decode cL_law 881 = .ok (.iconst 1, 1) := by decide +kernel
theorem dL_law_882 : decode cL_law 882 = .ok (.goto 4, 3) := by decide +kernel
theorem dL_law_885 : decode cL_law 885 = .ok (.iconst 0, 1) := by decide +kernel
theorem dL_law_886 : decode cL_law 886 = .ok (.iand, 1) := by decide +kernel
theorem dL_law_887 : decode cL_law 887 = .ok (.istore_n 3, 1) := by decide +kernel
theorem dL_law_888 : decode cL_law 888 = .ok (.iload_n 3, 1) := by decide +kernel
theorem dL_law_889 : decode cL_law 889 = .ok (.ifCond .eq 108, 3) := by decide +kernel
theorem dL_law_892 : decode cL_law 892 = .ok (.aload_n 1, 1) := by decide +kernel
theorem dL_law_893 : decode cL_law 893 = .ok (.iconst 5, 1) := by decide +kernel
theorem dL_law_894 : decode cL_law 894 = .ok (.iconst 0, 1) := by decide +kernel
theorem dL_law_895 : decode cL_law 895 = .ok (.invokestatic 151, 3) := by decide +kernel
theorem dL_law_898 : decode cL_law 898 = .ok (.ldc 20, 2) := by decide +kernel
theorem dL_law_900 : decode cL_law 900 = .ok (.if_icmp .ne 97, 3) := by decide +kernel
theorem dL_law_903 : decode cL_law 903 = .ok (.aload_n 1, 1) := by decide +kernel
theorem dL_law_904 : decode cL_law 904 = .ok (.iconst 5, 1) := by decide +kernel
theorem dL_law_905 : decode cL_law 905 = .ok (.iconst 0, 1) := by decide +kernel
theorem dL_law_906 : decode cL_law 906 = .ok (.invokestatic 153, 3) := by decide +kernel
theorem dL_law_909 : decode cL_law 909 = .ok (.bipush 84, 2) := by decide +kernel
theorem dL_law_911 : decode cL_law 911 = .ok (.if_icmp .ne 86, 3) := by decide +kernel
theorem dL_law_914 : decode cL_law 914 = .ok (.aload_n 1, 1) := by decide +kernel
theorem dL_law_915 : decode cL_law 915 = .ok (.iconst 5, 1) := by decide +kernel
theorem dL_law_916 : decode cL_law 916 = .ok (.iconst 0, 1) := by decide +kernel
theorem dL_law_917 : decode cL_law 917 = .ok (.iconst 1, 1) := by decide +kernel
theorem dL_law_918 : decode cL_law 918 = .ok (.invokestatic 134, 3) := by decide +kernel
theorem dL_law_921 : decode cL_law 921 = .ok (.bipush 84, 2) := by decide +kernel
theorem dL_law_923 : decode cL_law 923 = .ok (.if_icmp .ne 74, 3) := by decide +kernel
theorem dL_law_926 : decode cL_law 926 = .ok (.aload_n 1, 1) := by decide +kernel
theorem dL_law_927 : decode cL_law 927 = .ok (.iconst 5, 1) := by decide +kernel
theorem dL_law_928 : decode cL_law 928 = .ok (.iconst 0, 1) := by decide +kernel
theorem dL_law_929 : decode cL_law 929 = .ok (.invokestatic 137, 3) := by decide +kernel
theorem dL_law_932 : decode cL_law 932 = .ok (.bipush 84, 2) := by decide +kernel
theorem dL_law_934 : decode cL_law 934 = .ok (.if_icmp .ne 63, 3) := by decide +kernel
theorem dL_law_937 : decode cL_law 937 = .ok (.aload_n 1, 1) := by decide +kernel
theorem dL_law_938 : decode cL_law 938 = .ok (.iconst 5, 1) := by decide +kernel
theorem dL_law_939 : decode cL_law 939 = .ok (.iconst 0, 1) := by decide +kernel
theorem dL_law_940 : decode cL_law 940 = .ok (.iconst 1, 1) := by decide +kernel
theorem dL_law_941 : decode cL_law 941 = .ok (.bipush 7, 2) := by decide +kernel
theorem dL_law_943 : decode cL_law 943 = .ok (.invokestatic 131, 3) := by decide +kernel
theorem dL_law_946 : decode cL_law 946 = .ok (.bipush 84, 2) := by decide +kernel
theorem dL_law_948 : decode cL_law 948 = .ok (.if_icmp .ne 49, 3) := by decide +kernel
theorem dL_law_951 : decode cL_law 951 = .ok (.aload_n 1, 1) := by decide +kernel
theorem dL_law_952 : decode cL_law 952 = .ok (.iconst 5, 1) := by decide +kernel
theorem dL_law_953 : decode cL_law 953 = .ok (.invokestatic 139, 3) := by decide +kernel
theorem dL_law_956 : decode cL_law 956 = .ok (.bipush 84, 2) := by decide +kernel
theorem dL_law_958 : decode cL_law 958 = .ok (.if_icmp .ne 39, 3) := by decide +kernel
theorem dL_law_961 : decode cL_law 961 = .ok (.aload_n 1, 1) := by decide +kernel
theorem dL_law_962 : decode cL_law 962 = .ok (.iconst 5, 1) := by decide +kernel
theorem dL_law_963 : decode cL_law 963 = .ok (.iconst (-1), 1) := by decide +kernel
theorem dL_law_964 : decode cL_law 964 = .ok (.invokestatic 163, 3) := by decide +kernel
theorem dL_law_967 : decode cL_law 967 = .ok (.bipush 84, 2) := by decide +kernel
theorem dL_law_969 : decode cL_law 969 = .ok (.if_icmp .ne 28, 3) := by decide +kernel
theorem dL_law_972 : decode cL_law 972 = .ok (.aload_n 1, 1) := by decide +kernel
theorem dL_law_973 : decode cL_law 973 = .ok (.iconst 5, 1) := by decide +kernel
theorem dL_law_974 : decode cL_law 974 = .ok (.invokestatic 120, 3) := by decide +kernel
theorem dL_law_977 : decode cL_law 977 = .ok (.ldc 20, 2) := by decide +kernel
theorem dL_law_979 : decode cL_law 979 = .ok (.if_icmp .ne 18, 3) := by decide +kernel
theorem dL_law_982 : decode cL_law 982 = .ok (.aload_n 1, 1) := by decide +kernel
theorem dL_law_983 : decode cL_law 983 = .ok (.iconst 5, 1) := by decide +kernel
theorem dL_law_984 : decode cL_law 984 = .ok (.iconst 0, 1) := by decide +kernel
theorem dL_law_985 : decode cL_law 985 = .ok (.invokestatic 118, 3) := by decide +kernel
theorem dL_law_988 : decode cL_law 988 = .ok (.ldc 20, 2) := by decide +kernel
theorem dL_law_990 : decode cL_law 990 = .ok (.if_icmp .ne 7, 3) := by decide +kernel
theorem dL_law_993 : decode cL_law 993 = .ok (.iconst 1, 1) := by decide +kernel
theorem dL_law_994 : decode cL_law 994 = .ok (.goto 4, 3) := by decide +kernel
theorem dL_law_997 : decode cL_law 997 = .ok (.iconst 0, 1) := by decide +kernel
theorem dL_law_998 : decode cL_law 998 = .ok (.ireturn, 1) := by decide +kernel
abbrev vwCl : List vw_C := [(RJ0, TJ0, 2), (RJx00060, TJx00060, 6), (RX2, TX2, 3), (RX3, TX3, 19), (RX5, TX5, 8), (RX7, TX7, 9), (RX8, TX8, 2), (RX10, TX10, 3), (RX11, TX11, 4)]
