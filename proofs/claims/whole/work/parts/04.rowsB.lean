theorem dX3_init_0 : decode cX3_init 0 = .ok (.aload_n 0, 1) := by decide +kernel
theorem dX3_init_1 : decode cX3_init 1 = .ok (.invokespecial 3, 3) := by decide +kernel
theorem dX3_init_4 : decode cX3_init 4 = .ok (.aload_n 0, 1) := by decide +kernel
theorem dX3_init_5 : decode cX3_init 5 = .ok (.sipush 240, 3) := by decide +kernel
theorem dX3_init_8 : decode cX3_init 8 = .ok (.anewarray 9, 3) := by decide +kernel
theorem dX3_init_11 : decode cX3_init 11 = .ok (.putfield 11, 3) := by decide +kernel
theorem dX3_init_14 : decode cX3_init 14 = .ok (.return_, 1) := by decide +kernel
theorem dX3_add_0 : decode cX3_add 0 = .ok (.aload_n 0, 1) := by decide +kernel
theorem dX3_add_1 : decode cX3_add 1 = .ok (.getfield 17, 3) := by decide +kernel
theorem dX3_add_4 : decode cX3_add 4 = .ok (.aload_n 0, 1) := by decide +kernel
theorem dX3_add_5 : decode cX3_add 5 = .ok (.getfield 11, 3) := by decide +kernel
theorem dX3_add_8 : decode cX3_add 8 = .ok (.arraylength, 1) := by decide +kernel
theorem dX3_add_9 : decode cX3_add 9 = .ok (.if_icmp .lt 14, 3) := by decide +kernel
theorem dX3_add_12 : decode cX3_add 12 = .ok (.aload_n 0, 1) := by decide +kernel
theorem dX3_add_13 : decode cX3_add 13 = .ok (.dup, 1) := by decide +kernel
theorem dX3_add_14 : decode cX3_add 14 = .ok (.getfield 21, 3) := by decide +kernel
theorem dX3_add_17 : decode cX3_add 17 = .ok (.iconst 1, 1) := by decide +kernel
theorem dX3_add_18 : decode cX3_add 18 = .ok (.iadd, 1) := by decide +kernel
theorem dX3_add_19 : decode cX3_add 19 = .ok (.putfield 21, 3) := by decide +kernel
theorem dX3_add_22 : decode cX3_add 22 = .ok (.return_, 1) := by decide +kernel
theorem dX3_add_23 : decode cX3_add 23 = .ok (.aload_n 0, 1) := by decide +kernel
theorem dX3_add_24 : decode cX3_add 24 = .ok (.getfield 11, 3) := by decide +kernel
theorem dX3_add_27 : decode cX3_add 27 = .ok (.aload_n 0, 1) := by decide +kernel
theorem dX3_add_28 : decode cX3_add 28 = .ok (.getfield 17, 3) := by decide +kernel
theorem dX3_add_31 : decode cX3_add 31 = .ok (.aload_n 1, 1) := by decide +kernel
theorem dX3_add_32 : decode cX3_add 32 = .ok (.aastore, 1) := by decide +kernel
theorem dX3_add_33 : decode cX3_add 33 = .ok (.aload_n 0, 1) := by decide +kernel
theorem dX3_add_34 : decode cX3_add 34 = .ok (.dup, 1) := by decide +kernel
theorem dX3_add_35 : decode cX3_add 35 = .ok (.getfield 17, 3) := by decide +kernel
theorem dX3_add_38 : decode cX3_add 38 = .ok (.iconst 1, 1) := by decide +kernel
theorem dX3_add_39 : decode cX3_add 39 = .ok (.iadd, 1) := by decide +kernel
theorem dX3_add_40 : decode cX3_add 40 = .ok (.putfield 17, 3) := by decide +kernel
theorem dX3_add_43 : decode cX3_add 43 = .ok (.return_, 1) := by decide +kernel
theorem dX3_at_0 : decode cX3_at 0 = .ok (.iload_n 1, 1) := by decide +kernel
theorem dX3_at_1 : decode cX3_at 1 = .ok (.ifCond .lt 20, 3) := by decide +kernel
theorem dX3_at_4 : decode cX3_at 4 = .ok (.iload_n 1, 1) := by decide +kernel
theorem dX3_at_5 : decode cX3_at 5 = .ok (.aload_n 0, 1) := by decide +kernel
theorem dX3_at_6 : decode cX3_at 6 = .ok (.getfield 17, 3) := by decide +kernel
theorem dX3_at_9 : decode cX3_at 9 = .ok (.if_icmp .ge 12, 3) := by decide +kernel
theorem dX3_at_12 : decode cX3_at 12 = .ok (.aload_n 0, 1) := by decide +kernel
theorem dX3_at_13 : decode cX3_at 13 = .ok (.getfield 11, 3) := by decide +kernel
theorem dX3_at_16 : decode cX3_at 16 = .ok (.iload_n 1, 1) := by decide +kernel
theorem dX3_at_17 : decode cX3_at 17 = .ok (.aaload, 1) := by decide +kernel
theorem dX3_at_18 : decode cX3_at 18 = .ok (.goto 4, 3) := by decide +kernel
theorem dX3_at_21 : decode cX3_at 21 = .ok (.aconst_null, 1) := by decide +kernel
theorem dX3_at_22 : decode cX3_at 22 = .ok (.areturn, 1) := by decide +kernel
set_option maxRecDepth 20000 in
theorem ggX3_standing_X3_at : GoodIn wsX3_standing wsX3_at := goodIn_r _ [6, 7, 8, 17, 18, 19] (by decide +kernel) (by decide +kernel)
set_option maxRecDepth 20000 in
theorem gX3_standing_X3_at : GoodIn wsX3_standing (wsV RX3 24 RX3 yX3_at wsX3_at) := goodIn_app (goodIn_of _ (by decide +kernel)) ggX3_standing_X3_at
theorem dX3_standing_0 : decode cX3_standing 0 = .ok (.aload_n 0, 1) := by decide +kernel
theorem dX3_standing_1 : decode cX3_standing 1 = .ok (.iload_n 1, 1) := by decide +kernel
theorem dX3_standing_2 : decode cX3_standing 2 = .ok (.invokevirtual 24, 3) := by decide +kernel
theorem dX3_standing_5 : decode cX3_standing 5 = .ok (.astore_n 2, 1) := by decide +kernel
theorem dX3_standing_6 : decode cX3_standing 6 = .ok (.aload_n 2, 1) := by decide +kernel
theorem dX3_standing_7 : decode cX3_standing 7 = .ok (.ifnull 10, 3) := by decide +kernel
theorem dX3_standing_10 : decode cX3_standing 10 = .ok (.aload_n 2, 1) := by decide +kernel
theorem dX3_standing_11 : decode cX3_standing 11 = .ok (.getfield 28, 3) := by decide +kernel
theorem dX3_standing_14 : decode cX3_standing 14 = .ok (.ifCond .eq 7, 3) := by decide +kernel
theorem dX3_standing_17 : decode cX3_standing 17 = .ok (.aconst_null, 1) := by decide +kernel
theorem dX3_standing_18 : decode cX3_standing 18 = .ok (.goto 4, 3) := by decide +kernel
theorem dX3_standing_21 : decode cX3_standing 21 = .ok (.aload_n 2, 1) := by decide +kernel
theorem dX3_standing_22 : decode cX3_standing 22 = .ok (.areturn, 1) := by decide +kernel
theorem dX3_countDropped_0 : decode cX3_countDropped 0 = .ok (.iconst 0, 1) := by decide +kernel
theorem dX3_countDropped_1 : decode cX3_countDropped 1 = .ok (.istore_n 1, 1) := by decide +kernel
theorem dX3_countDropped_2 : decode cX3_countDropped 2 = .ok (.aload_n 0, 1) := by decide +kernel
theorem dX3_countDropped_3 : decode cX3_countDropped 3 = .ok (.getfield 11, 3) := by decide +kernel
theorem dX3_countDropped_6 : decode cX3_countDropped 6 = .ok (.astore_n 2, 1) := by decide +kernel
theorem dX3_countDropped_7 : decode cX3_countDropped 7 = .ok (.aload_n 2, 1) := by decide +kernel
theorem dX3_countDropped_8 : decode cX3_countDropped 8 = .ok (.arraylength, 1) := by decide +kernel
theorem dX3_countDropped_9 : decode cX3_countDropped 9 = .ok (.istore_n 3, 1) := by decide +kernel
theorem dX3_countDropped_10 : decode cX3_countDropped 10 = .ok (.iconst 0, 1) := by decide +kernel
theorem dX3_countDropped_11 : decode cX3_countDropped 11 = .ok (.istore 4, 2) := by decide +kernel
theorem dX3_countDropped_13 : decode cX3_countDropped 13 = .ok (.iload 4, 2) := by decide +kernel
theorem dX3_countDropped_15 : decode cX3_countDropped 15 = .ok (.iload_n 3, 1) := by decide +kernel
theorem dX3_countDropped_16 : decode cX3_countDropped 16 = .ok (.if_icmp .ge 36, 3) := by decide +kernel
theorem dX3_countDropped_19 : decode cX3_countDropped 19 = .ok (.aload_n 2, 1) := by decide +kernel
theorem dX3_countDropped_20 : decode cX3_countDropped 20 = .ok (.iload 4, 2) := by decide +kernel
theorem dX3_countDropped_22 : decode cX3_countDropped 22 = .ok (.aaload, 1) := by decide +kernel
theorem dX3_countDropped_23 : decode cX3_countDropped 23 = .ok (.astore 5, 2) := by decide +kernel
theorem dX3_countDropped_25 : decode cX3_countDropped 25 = .ok (.iload_n 1, 1) := by decide +kernel
theorem dX3_countDropped_26 : decode cX3_countDropped 26 = .ok (.aload 5, 2) := by decide +kernel
theorem dX3_countDropped_28 : decode cX3_countDropped 28 = .ok (.ifnull 15, 3) := by decide +kernel
theorem dX3_countDropped_31 : decode cX3_countDropped 31 = .ok (.aload 5, 2) := by decide +kernel
theorem dX3_countDropped_33 : decode cX3_countDropped 33 = .ok (.getfield 28, 3) := by decide +kernel
theorem dX3_countDropped_36 : decode cX3_countDropped 36 = .ok (.ifCond .eq 7, 3) := by decide +kernel
theorem dX3_countDropped_39 : decode cX3_countDropped 39 = .ok (.iconst 1, 1) := by decide +kernel
theorem dX3_countDropped_40 : decode cX3_countDropped 40 = .ok (.goto 4, 3) := by decide +kernel
theorem dX3_countDropped_43 : decode cX3_countDropped 43 = .ok (.iconst 0, 1) := by decide +kernel
theorem dX3_countDropped_44 : decode cX3_countDropped 44 = .ok (.iadd, 1) := by decide +kernel
theorem dX3_countDropped_45 : decode cX3_countDropped 45 = .ok (.istore_n 1, 1) := by decide +kernel
theorem dX3_countDropped_46 : decode cX3_countDropped 46 = .ok (.iinc 4 1, 3) := by decide +kernel
theorem dX3_countDropped_49 : decode cX3_countDropped 49 = .ok (.goto (-36), 3) := by decide +kernel
theorem dX3_countDropped_52 : decode cX3_countDropped 52 = .ok (.iload_n 1, 1) := by decide +kernel
theorem dX3_countDropped_53 : decode cX3_countDropped 53 = .ok (.ireturn, 1) := by decide +kernel
set_option maxRecDepth 20000 in
theorem ggX4_init_X1_init : GoodIn wsX4_init wsX1_init := goodIn_r _ [20, 21, 2, 3, 22, 43] (by decide +kernel) (by decide +kernel)
set_option maxRecDepth 20000 in
theorem gX4_init_X1_init : GoodIn wsX4_init (wsX1_init) := ggX4_init_X1_init
set_option maxRecDepth 20000 in
theorem ggX4_init_X3_init : GoodIn wsX4_init wsX3_init := goodIn_r _ [24, 25, 2, 3, 26, 27, 44, 45, 46] (by decide +kernel) (by decide +kernel)
set_option maxRecDepth 20000 in
theorem gX4_init_X3_init_n14 : GoodIn wsX4_init (wsX3_init) := ggX4_init_X3_init
set_option maxRecDepth 20000 in
theorem ggX4_init_X2_init : GoodIn wsX4_init wsX2_init := goodIn_r _ [30, 31, 2, 3, 7, 32, 33, 34, 35, 36, 37, 38, 39, 40, 41, 42, 50, 51, 52, 53, 54, 55, 56, 57, 58, 59, 60, 61, 62, 63, 64, 65, 66] (by decide +kernel) (by decide +kernel)
set_option maxRecDepth 20000 in
theorem gX4_init_X2_init : GoodIn wsX4_init (wsX2_init) := ggX4_init_X2_init
theorem dX4_init_0 : decode cX4_init 0 = .ok (.aload_n 0, 1) := by decide +kernel
theorem dX4_init_1 : decode cX4_init 1 = .ok (.invokespecial 1, 3) := by decide +kernel
theorem dX4_init_4 : decode cX4_init 4 = .ok (.iload_n 1, 1) := by decide +kernel
theorem dX4_init_5 : decode cX4_init 5 = .ok (.iconst 5, 1) := by decide +kernel
theorem dX4_init_6 : decode cX4_init 6 = .ok (.if_icmp .ne 7, 3) := by decide +kernel
theorem dX4_init_9 : decode cX4_init 9 = .ok (.iconst 5, 1) := by decide +kernel
theorem dX4_init_10 : decode cX4_init 10 = .ok (.goto 4, 3) := by decide +kernel
theorem dX4_init_13 : decode cX4_init 13 = .ok (.iconst 3, 1) := by decide +kernel
theorem dX4_init_14 : decode cX4_init 14 = .ok (.istore_n 2, 1) := by decide +kernel
theorem dX4_init_15 : decode cX4_init 15 = .ok (.new 7, 3) := by decide +kernel
theorem dX4_init_18 : decode cX4_init 18 = .ok (.dup, 1) := by decide +kernel
theorem dX4_init_19 : decode cX4_init 19 = .ok (.iconst 0, 1) := by decide +kernel
theorem dX4_init_20 : decode cX4_init 20 = .ok (.newarray .int, 2) := by decide +kernel
theorem dX4_init_22 : decode cX4_init 22 = .ok (.invokespecial 9, 3) := by decide +kernel
theorem dX4_init_25 : decode cX4_init 25 = .ok (.astore_n 3, 1) := by decide +kernel
theorem dX4_init_26 : decode cX4_init 26 = .ok (.aload_n 0, 1) := by decide +kernel
theorem dX4_init_27 : decode cX4_init 27 = .ok (.new 12, 3) := by decide +kernel
theorem dX4_init_30 : decode cX4_init 30 = .ok (.dup, 1) := by decide +kernel
theorem dX4_init_31 : decode cX4_init 31 = .ok (.invokespecial 14, 3) := by decide +kernel
theorem dX4_init_34 : decode cX4_init 34 = .ok (.putfield 15, 3) := by decide +kernel
theorem dX4_init_37 : decode cX4_init 37 = .ok (.aload_n 0, 1) := by decide +kernel
theorem dX4_init_38 : decode cX4_init 38 = .ok (.iload_n 2, 1) := by decide +kernel
theorem dX4_init_39 : decode cX4_init 39 = .ok (.anewarray 21, 3) := by decide +kernel
theorem dX4_init_42 : decode cX4_init 42 = .ok (.putfield 23, 3) := by decide +kernel
theorem dX4_init_45 : decode cX4_init 45 = .ok (.iconst 0, 1) := by decide +kernel
theorem dX4_init_46 : decode cX4_init 46 = .ok (.istore 4, 2) := by decide +kernel
theorem dX4_init_48 : decode cX4_init 48 = .ok (.iload 4, 2) := by decide +kernel
theorem dX4_init_50 : decode cX4_init 50 = .ok (.iload_n 2, 1) := by decide +kernel
theorem dX4_init_51 : decode cX4_init 51 = .ok (.if_icmp .ge 31, 3) := by decide +kernel
theorem dX4_init_54 : decode cX4_init 54 = .ok (.aload_n 0, 1) := by decide +kernel
theorem dX4_init_55 : decode cX4_init 55 = .ok (.getfield 23, 3) := by decide +kernel
theorem dX4_init_58 : decode cX4_init 58 = .ok (.iload 4, 2) := by decide +kernel
theorem dX4_init_60 : decode cX4_init 60 = .ok (.new 21, 3) := by decide +kernel
theorem dX4_init_63 : decode cX4_init 63 = .ok (.dup, 1) := by decide +kernel
theorem dX4_init_64 : decode cX4_init 64 = .ok (.iload 4, 2) := by decide +kernel
theorem dX4_init_66 : decode cX4_init 66 = .ok (.iload_n 2, 1) := by decide +kernel
theorem dX4_init_67 : decode cX4_init 67 = .ok (.aload_n 0, 1) := by decide +kernel
theorem dX4_init_68 : decode cX4_init 68 = .ok (.getfield 15, 3) := by decide +kernel
theorem dX4_init_71 : decode cX4_init 71 = .ok (.aload_n 3, 1) := by decide +kernel
theorem dX4_init_72 : decode cX4_init 72 = .ok (.invokespecial 27, 3) := by decide +kernel
theorem dX4_init_75 : decode cX4_init 75 = .ok (.aastore, 1) := by decide +kernel
theorem dX4_init_76 : decode cX4_init 76 = .ok (.iinc 4 1, 3) := by decide +kernel
theorem dX4_init_79 : decode cX4_init 79 = .ok (.goto (-31), 3) := by decide +kernel
theorem dX4_init_82 : decode cX4_init 82 = .ok (.aload_n 0, 1) := by decide +kernel
theorem dX4_init_83 : decode cX4_init 83 = .ok (.iload_n 2, 1) := by decide +kernel
theorem dX4_init_84 : decode cX4_init 84 = .ok (.iload_n 2, 1) := by decide +kernel
theorem dX4_init_85 : decode cX4_init 85 = .ok (.imul, 1) := by decide +kernel
theorem dX4_init_86 : decode cX4_init 86 = .ok (.newarray .boolean, 2) := by decide +kernel
theorem dX4_init_88 : decode cX4_init 88 = .ok (.putfield 30, 3) := by decide +kernel
theorem dX4_init_91 : decode cX4_init 91 = .ok (.return_, 1) := by decide +kernel
set_option maxRecDepth 20000 in
theorem ggX4_request_X4_nodeAt : GoodIn wsX4_request wsX4_nodeAt := goodIn_r _ [6, 7, 130, 131, 132] (by decide +kernel) (by decide +kernel)
set_option maxRecDepth 20000 in
theorem gX4_request_X4_nodeAt : GoodIn wsX4_request (wsV RX4 34 RX4 yX4_nodeAt wsX4_nodeAt) := goodIn_app (goodIn_of _ (by decide +kernel)) ggX4_request_X4_nodeAt
set_option maxRecDepth 20000 in
theorem ggX4_request_X4_isEntry : GoodIn wsX4_request wsX4_isEntry := goodIn_r _ [10, 11, 12, 13, 5, 14] (by decide +kernel) (by decide +kernel)
set_option maxRecDepth 20000 in
theorem gX4_request_X4_isEntry : GoodIn wsX4_request (va_wsS RX4 38 yX4_isEntry wsX4_isEntry) := goodIn_app (goodIn_of _ (by decide +kernel)) ggX4_request_X4_isEntry
set_option maxRecDepth 20000 in
theorem ggX4_request_X2_leads : GoodIn wsX4_request wsX2_leads := goodIn_r _ [19, 20, 21, 22, 23, 18, 24, 25, 26, 27, 28, 29, 30, 31, 113, 114, 115, 116, 117, 118, 119, 120, 121, 122, 123, 124, 125, 126, 127, 128, 129] (by decide +kernel) (by decide +kernel)
set_option maxRecDepth 20000 in
theorem gX4_request_X2_leads : GoodIn wsX4_request (wsV RX4 42 RX2 yX2_leads wsX2_leads) := goodIn_app (goodIn_of _ (by decide +kernel)) ggX4_request_X2_leads
set_option maxRecDepth 20000 in
theorem ggX4_request_X1_answers : GoodIn wsX4_request wsX1_answers := goodIn_r _ [36, 37, 38, 39, 35, 40, 41, 42, 43, 44, 45, 46, 133] (by decide +kernel) (by decide +kernel)
set_option maxRecDepth 20000 in
theorem gX4_request_X1_answers : GoodIn wsX4_request (wsV RX4 50 RX1 yX1_answers wsX1_answers) := goodIn_app (goodIn_of _ (by decide +kernel)) ggX4_request_X1_answers
set_option maxRecDepth 20000 in
theorem ggX4_request_X1_size : GoodIn wsX4_request wsX1_size := goodIn_r _ [40, 41, 133] (by decide +kernel) (by decide +kernel)
set_option maxRecDepth 20000 in
theorem gX4_request_X1_size : GoodIn wsX4_request (wsV RX4 54 RX1 yX1_size wsX1_size) := goodIn_app (goodIn_of _ (by decide +kernel)) ggX4_request_X1_size
set_option maxRecDepth 20000 in
theorem ggX4_request_X1_with : GoodIn wsX4_request wsX1_with := goodIn_r _ [51, 41, 52, 53, 35, 54, 55, 56, 57, 58, 59, 60, 61, 62, 63, 64, 65, 66, 67, 68, 69, 70, 71, 72, 73, 74, 75, 76, 77, 78, 133] (by decide +kernel) (by decide +kernel)
set_option maxRecDepth 20000 in
theorem gX4_request_X1_with : GoodIn wsX4_request (wsV RX4 58 RX1 yX1_with wsX1_with) := goodIn_app (goodIn_of _ (by decide +kernel)) ggX4_request_X1_with
set_option maxRecDepth 20000 in
theorem ggX4_request_X2_postToAll : GoodIn wsX4_request wsX2_postToAll := goodIn_r _ [82, 31, 26, 83, 84, 85, 86, 18, 87, 88, 89, 90, 25, 91, 92, 93, 94, 95, 96, 97, 77, 78, 98, 99, 100, 101, 102, 103, 104, 105, 106, 107, 108, 109, 110, 111, 112, 113, 114, 115, 116, 117, 118, 119, 120, 121, 122, 123, 124, 125, 126, 127, 128, 129, 134, 135, 136, 137, 138, 139, 140, 141, 142, 143, 144] (by decide +kernel) (by decide +kernel)
set_option maxRecDepth 20000 in
theorem gX4_request_X2_postToAll : GoodIn wsX4_request (wsV RX4 62 RX2 yX2_postToAll wsX2_postToAll) := goodIn_app (goodIn_of _ (by decide +kernel)) ggX4_request_X2_postToAll
theorem dX4_request_0 : decode cX4_request 0 = .ok (.aload_n 0, 1) := by decide +kernel
theorem dX4_request_1 : decode cX4_request 1 = .ok (.iload_n 1, 1) := by decide +kernel
theorem dX4_request_2 : decode cX4_request 2 = .ok (.invokevirtual 34, 3) := by decide +kernel
theorem dX4_request_5 : decode cX4_request 5 = .ok (.astore 8, 2) := by decide +kernel
theorem dX4_request_7 : decode cX4_request 7 = .ok (.aload 8, 2) := by decide +kernel
theorem dX4_request_9 : decode cX4_request 9 = .ok (.ifnull 17, 3) := by decide +kernel
theorem dX4_request_12 : decode cX4_request 12 = .ok (.iload_n 2, 1) := by decide +kernel
theorem dX4_request_13 : decode cX4_request 13 = .ok (.iload_n 3, 1) := by decide +kernel
theorem dX4_request_14 : decode cX4_request 14 = .ok (.iload 4, 2) := by decide +kernel
theorem dX4_request_16 : decode cX4_request 16 = .ok (.iload 5, 2) := by decide +kernel
theorem dX4_request_18 : decode cX4_request 18 = .ok (.iload 6, 2) := by decide +kernel
theorem dX4_request_20 : decode cX4_request 20 = .ok (.invokestatic 38, 3) := by decide +kernel
theorem dX4_request_23 : decode cX4_request 23 = .ok (.ifCond .ne 6, 3) := by decide +kernel
theorem dX4_request_26 : decode cX4_request 26 = .ok (.bipush (-2), 2) := by decide +kernel
theorem dX4_request_28 : decode cX4_request 28 = .ok (.ireturn, 1) := by decide +kernel
theorem dX4_request_29 : decode cX4_request 29 = .ok (.aload 8, 2) := by decide +kernel
theorem dX4_request_31 : decode cX4_request 31 = .ok (.invokevirtual 42, 3) := by decide +kernel
theorem dX4_request_34 : decode cX4_request 34 = .ok (.ifCond .ne 6, 3) := by decide +kernel
theorem dX4_request_37 : decode cX4_request 37 = .ok (.bipush (-3), 2) := by decide +kernel
theorem dX4_request_39 : decode cX4_request 39 = .ok (.ireturn, 1) := by decide +kernel
theorem dX4_request_40 : decode cX4_request 40 = .ok (.aload 8, 2) := by decide +kernel
theorem dX4_request_42 : decode cX4_request 42 = .ok (.getfield 46, 3) := by decide +kernel
theorem dX4_request_45 : decode cX4_request 45 = .ok (.iload_n 2, 1) := by decide +kernel
theorem dX4_request_46 : decode cX4_request 46 = .ok (.iload_n 3, 1) := by decide +kernel
theorem dX4_request_47 : decode cX4_request 47 = .ok (.invokevirtual 50, 3) := by decide +kernel
theorem dX4_request_50 : decode cX4_request 50 = .ok (.ifCond .eq 5, 3) := by decide +kernel
theorem dX4_request_53 : decode cX4_request 53 = .ok (.iconst 0, 1) := by decide +kernel
theorem dX4_request_54 : decode cX4_request 54 = .ok (.ireturn, 1) := by decide +kernel
theorem dX4_request_55 : decode cX4_request 55 = .ok (.aload 8, 2) := by decide +kernel
theorem dX4_request_57 : decode cX4_request 57 = .ok (.getfield 46, 3) := by decide +kernel
theorem dX4_request_60 : decode cX4_request 60 = .ok (.invokevirtual 54, 3) := by decide +kernel
theorem dX4_request_63 : decode cX4_request 63 = .ok (.bipush 16, 2) := by decide +kernel
theorem dX4_request_65 : decode cX4_request 65 = .ok (.if_icmp .lt 6, 3) := by decide +kernel
theorem dX4_request_68 : decode cX4_request 68 = .ok (.bipush (-4), 2) := by decide +kernel
theorem dX4_request_70 : decode cX4_request 70 = .ok (.ireturn, 1) := by decide +kernel
theorem dX4_request_71 : decode cX4_request 71 = .ok (.aload 8, 2) := by decide +kernel
theorem dX4_request_73 : decode cX4_request 73 = .ok (.aload 8, 2) := by decide +kernel
theorem dX4_request_75 : decode cX4_request 75 = .ok (.getfield 46, 3) := by decide +kernel
theorem dX4_request_78 : decode cX4_request 78 = .ok (.iload_n 2, 1) := by decide +kernel
theorem dX4_request_79 : decode cX4_request 79 = .ok (.iload_n 3, 1) := by decide +kernel
theorem dX4_request_80 : decode cX4_request 80 = .ok (.iload 4, 2) := by decide +kernel
theorem dX4_request_82 : decode cX4_request 82 = .ok (.iload 5, 2) := by decide +kernel
theorem dX4_request_84 : decode cX4_request 84 = .ok (.iload 6, 2) := by decide +kernel
theorem dX4_request_86 : decode cX4_request 86 = .ok (.iload 7, 2) := by decide +kernel
theorem dX4_request_88 : decode cX4_request 88 = .ok (.invokevirtual 58, 3) := by decide +kernel
theorem dX4_request_91 : decode cX4_request 91 = .ok (.putfield 46, 3) := by decide +kernel
theorem dX4_request_94 : decode cX4_request 94 = .ok (.aload 8, 2) := by decide +kernel
theorem dX4_request_96 : decode cX4_request 96 = .ok (.iconst 1, 1) := by decide +kernel
theorem dX4_request_97 : decode cX4_request 97 = .ok (.iconst 0, 1) := by decide +kernel
theorem dX4_request_98 : decode cX4_request 98 = .ok (.invokevirtual 62, 3) := by decide +kernel
theorem dX4_request_101 : decode cX4_request 101 = .ok (.aload 8, 2) := by decide +kernel
theorem dX4_request_103 : decode cX4_request 103 = .ok (.getfield 46, 3) := by decide +kernel
theorem dX4_request_106 : decode cX4_request 106 = .ok (.invokevirtual 54, 3) := by decide +kernel
theorem dX4_request_109 : decode cX4_request 109 = .ok (.ireturn, 1) := by decide +kernel
set_option maxRecDepth 20000 in
theorem ggX4_deliver_X3_standing : GoodIn wsX4_deliver wsX3_standing := goodIn_r _ [10, 11, 12, 13, 14, 9, 15, 16, 17, 190, 191, 192, 193, 194, 195, 196, 197, 198, 199, 200] (by decide +kernel) (by decide +kernel)
set_option maxRecDepth 20000 in
theorem gX4_deliver_X3_standing : GoodIn wsX4_deliver (wsV RX4 66 RX3 yX3_standing wsX3_standing) := goodIn_app (goodIn_of _ (by decide +kernel)) ggX4_deliver_X3_standing
set_option maxRecDepth 20000 in
theorem ggX4_deliver_X4_lineBetween : GoodIn wsX4_deliver wsX4_lineBetween := goodIn_r _ [22, 23, 24, 25, 26, 5, 27, 28, 29, 187, 188, 189] (by decide +kernel) (by decide +kernel)
set_option maxRecDepth 20000 in
theorem gX4_deliver_X4_lineBetween : GoodIn wsX4_deliver (wsV RX4 79 RX4 yX4_lineBetween wsX4_lineBetween) := goodIn_app (goodIn_of _ (by decide +kernel)) ggX4_deliver_X4_lineBetween
set_option maxRecDepth 20000 in
theorem ggX4_deliver_X2_hear : GoodIn wsX4_deliver wsX2_hear := goodIn_r _ [34, 35, 36, 37, 38, 39, 40, 33, 41, 42, 43, 44, 45, 46, 47, 48, 49, 50, 51, 52, 53, 54, 55, 56, 57, 58, 59, 60, 61, 62, 63, 64, 65, 66, 67, 68, 69, 70, 71, 72, 9, 73, 16, 17, 74, 75, 76, 77, 78, 79, 80, 81, 82, 83, 84, 85, 86, 87, 88, 89, 28, 25, 29, 90, 91, 92, 93, 94, 95, 96, 97, 98, 99, 100, 101, 102, 103, 104, 105, 106, 107, 108, 109, 110, 24, 26, 111, 112, 113, 114, 115, 116, 117, 118, 119, 120, 121, 122, 123, 124, 125, 126, 127, 128, 129, 130, 131, 132, 133, 134, 135, 136, 137, 138, 139, 140, 141, 142, 143, 144, 145, 146, 147, 148, 149, 150, 151, 152, 153, 154, 155, 156, 157, 158, 159, 160, 161, 162, 163, 164, 165, 166, 167, 168, 169, 170, 171, 172, 173, 174, 175, 176, 177, 178, 179, 180, 181, 182, 183, 184, 185, 186, 190, 191, 192, 193, 194, 195, 196, 197, 201, 202, 203, 204, 205, 206, 207, 208, 209, 210, 211, 212, 213, 214, 215, 216, 217, 198, 199, 200, 218] (by decide +kernel) (by decide +kernel)
set_option maxRecDepth 20000 in
theorem gX4_deliver_X2_hear : GoodIn wsX4_deliver (wsV RX4 83 RX2 yX2_hear wsX2_hear) := goodIn_app (goodIn_of _ (by decide +kernel)) ggX4_deliver_X2_hear
theorem dX4_deliver_0 : decode cX4_deliver 0 = .ok (.aload_n 0, 1) := by decide +kernel
theorem dX4_deliver_1 : decode cX4_deliver 1 = .ok (.getfield 15, 3) := by decide +kernel
theorem dX4_deliver_4 : decode cX4_deliver 4 = .ok (.iload_n 1, 1) := by decide +kernel
theorem dX4_deliver_5 : decode cX4_deliver 5 = .ok (.invokevirtual 66, 3) := by decide +kernel
theorem dX4_deliver_8 : decode cX4_deliver 8 = .ok (.astore_n 2, 1) := by decide +kernel
theorem dX4_deliver_9 : decode cX4_deliver 9 = .ok (.aload_n 2, 1) := by decide +kernel
theorem dX4_deliver_10 : decode cX4_deliver 10 = .ok (.ifnonnull 6, 3) := by decide +kernel
theorem dX4_deliver_13 : decode cX4_deliver 13 = .ok (.bipush (-2), 2) := by decide +kernel
theorem dX4_deliver_15 : decode cX4_deliver 15 = .ok (.ireturn, 1) := by decide +kernel
theorem dX4_deliver_16 : decode cX4_deliver 16 = .ok (.aload_n 0, 1) := by decide +kernel
theorem dX4_deliver_17 : decode cX4_deliver 17 = .ok (.getfield 30, 3) := by decide +kernel
theorem dX4_deliver_20 : decode cX4_deliver 20 = .ok (.aload_n 0, 1) := by decide +kernel
theorem dX4_deliver_21 : decode cX4_deliver 21 = .ok (.aload_n 2, 1) := by decide +kernel
theorem dX4_deliver_22 : decode cX4_deliver 22 = .ok (.getfield 70, 3) := by decide +kernel
theorem dX4_deliver_25 : decode cX4_deliver 25 = .ok (.aload_n 2, 1) := by decide +kernel
theorem dX4_deliver_26 : decode cX4_deliver 26 = .ok (.getfield 76, 3) := by decide +kernel
theorem dX4_deliver_29 : decode cX4_deliver 29 = .ok (.invokevirtual 79, 3) := by decide +kernel
theorem dX4_deliver_32 : decode cX4_deliver 32 = .ok (.baload, 1) := by decide +kernel
theorem dX4_deliver_33 : decode cX4_deliver 33 = .ok (.ifCond .eq 6, 3) := by decide +kernel
theorem dX4_deliver_36 : decode cX4_deliver 36 = .ok (.bipush (-3), 2) := by decide +kernel
theorem dX4_deliver_38 : decode cX4_deliver 38 = .ok (.ireturn, 1) := by decide +kernel
theorem dX4_deliver_39 : decode cX4_deliver 39 = .ok (.aload_n 0, 1) := by decide +kernel
theorem dX4_deliver_40 : decode cX4_deliver 40 = .ok (.getfield 23, 3) := by decide +kernel
theorem dX4_deliver_43 : decode cX4_deliver 43 = .ok (.aload_n 2, 1) := by decide +kernel
theorem dX4_deliver_44 : decode cX4_deliver 44 = .ok (.getfield 76, 3) := by decide +kernel
theorem dX4_deliver_47 : decode cX4_deliver 47 = .ok (.aaload, 1) := by decide +kernel
theorem dX4_deliver_48 : decode cX4_deliver 48 = .ok (.aload_n 2, 1) := by decide +kernel
theorem dX4_deliver_49 : decode cX4_deliver 49 = .ok (.invokevirtual 83, 3) := by decide +kernel
theorem dX4_deliver_52 : decode cX4_deliver 52 = .ok (.ifCond .eq 7, 3) := by decide +kernel
theorem dX4_deliver_55 : decode cX4_deliver 55 = .ok (.iconst 1, 1) := by decide +kernel
theorem dX4_deliver_56 : decode cX4_deliver 56 = .ok (.goto 4, 3) := by decide +kernel
theorem dX4_deliver_59 : decode cX4_deliver 59 = .ok (.iconst 0, 1) := by decide +kernel
theorem dX4_deliver_60 : decode cX4_deliver 60 = .ok (.ireturn, 1) := by decide +kernel
set_option maxRecDepth 20000 in
theorem ggX4_drop_X3_standing : GoodIn wsX4_drop wsX3_standing := goodIn_r _ [7, 8, 9, 10, 11, 6, 12, 13, 14, 18, 19, 20, 21, 22, 23, 24, 25, 26, 27, 28] (by decide +kernel) (by decide +kernel)
set_option maxRecDepth 20000 in
theorem gX4_drop_X3_standing : GoodIn wsX4_drop (wsV RX4 66 RX3 yX3_standing wsX3_standing) := goodIn_app (goodIn_of _ (by decide +kernel)) ggX4_drop_X3_standing
theorem dX4_drop_0 : decode cX4_drop 0 = .ok (.aload_n 0, 1) := by decide +kernel
theorem dX4_drop_1 : decode cX4_drop 1 = .ok (.getfield 15, 3) := by decide +kernel
theorem dX4_drop_4 : decode cX4_drop 4 = .ok (.iload_n 1, 1) := by decide +kernel
theorem dX4_drop_5 : decode cX4_drop 5 = .ok (.invokevirtual 66, 3) := by decide +kernel
theorem dX4_drop_8 : decode cX4_drop 8 = .ok (.astore_n 2, 1) := by decide +kernel
theorem dX4_drop_9 : decode cX4_drop 9 = .ok (.aload_n 2, 1) := by decide +kernel
theorem dX4_drop_10 : decode cX4_drop 10 = .ok (.ifnonnull 6, 3) := by decide +kernel
theorem dX4_drop_13 : decode cX4_drop 13 = .ok (.bipush (-2), 2) := by decide +kernel
theorem dX4_drop_15 : decode cX4_drop 15 = .ok (.ireturn, 1) := by decide +kernel
theorem dX4_drop_16 : decode cX4_drop 16 = .ok (.aload_n 2, 1) := by decide +kernel
theorem dX4_drop_17 : decode cX4_drop 17 = .ok (.iconst 1, 1) := by decide +kernel
theorem dX4_drop_18 : decode cX4_drop 18 = .ok (.putfield 87, 3) := by decide +kernel
theorem dX4_drop_21 : decode cX4_drop 21 = .ok (.iconst 1, 1) := by decide +kernel
theorem dX4_drop_22 : decode cX4_drop 22 = .ok (.ireturn, 1) := by decide +kernel
set_option maxRecDepth 20000 in
theorem ggX4_cut_X4_nodeAt : GoodIn wsX4_cut wsX4_nodeAt := goodIn_r _ [6, 7, 19, 20, 21] (by decide +kernel) (by decide +kernel)
set_option maxRecDepth 20000 in
theorem gX4_cut_X4_nodeAt : GoodIn wsX4_cut (wsV RX4 34 RX4 yX4_nodeAt wsX4_nodeAt) := goodIn_app (goodIn_of _ (by decide +kernel)) ggX4_cut_X4_nodeAt
set_option maxRecDepth 20000 in
theorem ggX4_cut_X4_lineBetween : GoodIn wsX4_cut wsX4_lineBetween := goodIn_r _ [11, 12, 13, 14, 15, 7, 16, 17, 18, 19, 20, 21] (by decide +kernel) (by decide +kernel)
set_option maxRecDepth 20000 in
theorem gX4_cut_X4_lineBetween : GoodIn wsX4_cut (wsV RX4 79 RX4 yX4_lineBetween wsX4_lineBetween) := goodIn_app (goodIn_of _ (by decide +kernel)) ggX4_cut_X4_lineBetween
theorem dX4_cut_0 : decode cX4_cut 0 = .ok (.aload_n 0, 1) := by decide +kernel
theorem dX4_cut_1 : decode cX4_cut 1 = .ok (.iload_n 1, 1) := by decide +kernel
theorem dX4_cut_2 : decode cX4_cut 2 = .ok (.invokevirtual 34, 3) := by decide +kernel
theorem dX4_cut_5 : decode cX4_cut 5 = .ok (.ifnull 16, 3) := by decide +kernel
theorem dX4_cut_8 : decode cX4_cut 8 = .ok (.aload_n 0, 1) := by decide +kernel
theorem dX4_cut_9 : decode cX4_cut 9 = .ok (.iload_n 2, 1) := by decide +kernel
theorem dX4_cut_10 : decode cX4_cut 10 = .ok (.invokevirtual 34, 3) := by decide +kernel
theorem dX4_cut_13 : decode cX4_cut 13 = .ok (.ifnull 8, 3) := by decide +kernel
theorem dX4_cut_16 : decode cX4_cut 16 = .ok (.iload_n 1, 1) := by decide +kernel
theorem dX4_cut_17 : decode cX4_cut 17 = .ok (.iload_n 2, 1) := by decide +kernel
theorem dX4_cut_18 : decode cX4_cut 18 = .ok (.if_icmp .ne 6, 3) := by decide +kernel
theorem dX4_cut_21 : decode cX4_cut 21 = .ok (.bipush (-2), 2) := by decide +kernel
theorem dX4_cut_23 : decode cX4_cut 23 = .ok (.ireturn, 1) := by decide +kernel
theorem dX4_cut_24 : decode cX4_cut 24 = .ok (.aload_n 0, 1) := by decide +kernel
theorem dX4_cut_25 : decode cX4_cut 25 = .ok (.iload_n 1, 1) := by decide +kernel
theorem dX4_cut_26 : decode cX4_cut 26 = .ok (.iload_n 2, 1) := by decide +kernel
theorem dX4_cut_27 : decode cX4_cut 27 = .ok (.invokevirtual 79, 3) := by decide +kernel
theorem dX4_cut_30 : decode cX4_cut 30 = .ok (.istore 4, 2) := by decide +kernel
theorem dX4_cut_32 : decode cX4_cut 32 = .ok (.aload_n 0, 1) := by decide +kernel
theorem dX4_cut_33 : decode cX4_cut 33 = .ok (.getfield 30, 3) := by decide +kernel
theorem dX4_cut_36 : decode cX4_cut 36 = .ok (.iload 4, 2) := by decide +kernel
theorem dX4_cut_38 : decode cX4_cut 38 = .ok (.baload, 1) := by decide +kernel
theorem dX4_cut_39 : decode cX4_cut 39 = .ok (.ifCond .eq 7, 3) := by decide +kernel
theorem dX4_cut_42 : decode cX4_cut 42 = .ok (.iconst 1, 1) := by decide +kernel
theorem dX4_cut_43 : decode cX4_cut 43 = .ok (.goto 4, 3) := by decide +kernel
theorem dX4_cut_46 : decode cX4_cut 46 = .ok (.iconst 0, 1) := by decide +kernel
theorem dX4_cut_47 : decode cX4_cut 47 = .ok (.istore 5, 2) := by decide +kernel
theorem dX4_cut_49 : decode cX4_cut 49 = .ok (.aload_n 0, 1) := by decide +kernel
theorem dX4_cut_50 : decode cX4_cut 50 = .ok (.getfield 30, 3) := by decide +kernel
theorem dX4_cut_53 : decode cX4_cut 53 = .ok (.iload 4, 2) := by decide +kernel
theorem dX4_cut_55 : decode cX4_cut 55 = .ok (.iload_n 3, 1) := by decide +kernel
theorem dX4_cut_56 : decode cX4_cut 56 = .ok (.bastore, 1) := by decide +kernel
theorem dX4_cut_57 : decode cX4_cut 57 = .ok (.iload 5, 2) := by decide +kernel
theorem dX4_cut_59 : decode cX4_cut 59 = .ok (.ireturn, 1) := by decide +kernel
set_option maxRecDepth 20000 in
theorem ggX4_timeout_X4_nodeAt : GoodIn wsX4_timeout wsX4_nodeAt := goodIn_r _ [6, 7, 81, 82, 83] (by decide +kernel) (by decide +kernel)
set_option maxRecDepth 20000 in
theorem gX4_timeout_X4_nodeAt : GoodIn wsX4_timeout (wsV RX4 34 RX4 yX4_nodeAt wsX4_nodeAt) := goodIn_app (goodIn_of _ (by decide +kernel)) ggX4_timeout_X4_nodeAt
set_option maxRecDepth 20000 in
theorem ggX4_timeout_X2_isDown : GoodIn wsX4_timeout wsX2_isDown := goodIn_r _ [12, 13, 64, 65, 66, 67, 68, 69, 70, 71, 72, 73, 74, 75, 76, 77, 78, 79, 80] (by decide +kernel) (by decide +kernel)
set_option maxRecDepth 20000 in
theorem gX4_timeout_X2_isDown : GoodIn wsX4_timeout (wsV RX4 91 RX2 yX2_isDown wsX2_isDown) := goodIn_app (goodIn_of _ (by decide +kernel)) ggX4_timeout_X2_isDown
set_option maxRecDepth 20000 in
theorem ggX4_timeout_X2_changeTo : GoodIn wsX4_timeout wsX2_changeTo := goodIn_r _ [17, 18, 13, 19, 20, 21, 11, 22, 23, 24, 25, 26, 27, 28, 29, 30, 31, 32, 33, 34, 35, 36, 37, 38, 39, 40, 41, 42, 43, 44, 45, 46, 47, 48, 49, 50, 51, 52, 53, 54, 55, 56, 57, 58, 59, 60, 61, 62, 63, 64, 65, 66, 67, 68, 69, 70, 71, 72, 73, 74, 75, 76, 77, 78, 79, 80, 84, 85, 86, 87, 88, 89, 90, 91, 92, 93, 94] (by decide +kernel) (by decide +kernel)
set_option maxRecDepth 20000 in
theorem gX4_timeout_X2_changeTo : GoodIn wsX4_timeout (wsV RX4 97 RX2 yX2_changeTo wsX2_changeTo) := goodIn_app (goodIn_of _ (by decide +kernel)) ggX4_timeout_X2_changeTo
theorem dX4_timeout_0 : decode cX4_timeout 0 = .ok (.aload_n 0, 1) := by decide +kernel
theorem dX4_timeout_1 : decode cX4_timeout 1 = .ok (.iload_n 1, 1) := by decide +kernel
theorem dX4_timeout_2 : decode cX4_timeout 2 = .ok (.invokevirtual 34, 3) := by decide +kernel
theorem dX4_timeout_5 : decode cX4_timeout 5 = .ok (.astore_n 2, 1) := by decide +kernel
theorem dX4_timeout_6 : decode cX4_timeout 6 = .ok (.aload_n 2, 1) := by decide +kernel
theorem dX4_timeout_7 : decode cX4_timeout 7 = .ok (.ifnonnull 6, 3) := by decide +kernel
theorem dX4_timeout_10 : decode cX4_timeout 10 = .ok (.bipush (-2), 2) := by decide +kernel
theorem dX4_timeout_12 : decode cX4_timeout 12 = .ok (.ireturn, 1) := by decide +kernel
theorem dX4_timeout_13 : decode cX4_timeout 13 = .ok (.aload_n 2, 1) := by decide +kernel
theorem dX4_timeout_14 : decode cX4_timeout 14 = .ok (.invokevirtual 91, 3) := by decide +kernel
theorem dX4_timeout_17 : decode cX4_timeout 17 = .ok (.ifCond .eq 6, 3) := by decide +kernel
theorem dX4_timeout_20 : decode cX4_timeout 20 = .ok (.bipush (-3), 2) := by decide +kernel
theorem dX4_timeout_22 : decode cX4_timeout 22 = .ok (.ireturn, 1) := by decide +kernel
theorem dX4_timeout_23 : decode cX4_timeout 23 = .ok (.aload_n 2, 1) := by decide +kernel
theorem dX4_timeout_24 : decode cX4_timeout 24 = .ok (.getfield 94, 3) := by decide +kernel
theorem dX4_timeout_27 : decode cX4_timeout 27 = .ok (.sipush 1000, 3) := by decide +kernel
theorem dX4_timeout_30 : decode cX4_timeout 30 = .ok (.if_icmp .lt 6, 3) := by decide +kernel
theorem dX4_timeout_33 : decode cX4_timeout 33 = .ok (.bipush (-4), 2) := by decide +kernel
theorem dX4_timeout_35 : decode cX4_timeout 35 = .ok (.ireturn, 1) := by decide +kernel
theorem dX4_timeout_36 : decode cX4_timeout 36 = .ok (.aload_n 2, 1) := by decide +kernel
theorem dX4_timeout_37 : decode cX4_timeout 37 = .ok (.aload_n 2, 1) := by decide +kernel
theorem dX4_timeout_38 : decode cX4_timeout 38 = .ok (.getfield 94, 3) := by decide +kernel
theorem dX4_timeout_41 : decode cX4_timeout 41 = .ok (.iconst 1, 1) := by decide +kernel
theorem dX4_timeout_42 : decode cX4_timeout 42 = .ok (.iadd, 1) := by decide +kernel
theorem dX4_timeout_43 : decode cX4_timeout 43 = .ok (.invokevirtual 97, 3) := by decide +kernel
theorem dX4_timeout_46 : decode cX4_timeout 46 = .ok (.aload_n 2, 1) := by decide +kernel
theorem dX4_timeout_47 : decode cX4_timeout 47 = .ok (.getfield 94, 3) := by decide +kernel
theorem dX4_timeout_50 : decode cX4_timeout 50 = .ok (.ireturn, 1) := by decide +kernel
set_option maxRecDepth 20000 in
theorem ggX4_resend_X4_nodeAt : GoodIn wsX4_resend wsX4_nodeAt := goodIn_r _ [6, 7, 96, 97, 98] (by decide +kernel) (by decide +kernel)
set_option maxRecDepth 20000 in
theorem gX4_resend_X4_nodeAt : GoodIn wsX4_resend (wsV RX4 34 RX4 yX4_nodeAt wsX4_nodeAt) := goodIn_app (goodIn_of _ (by decide +kernel)) ggX4_resend_X4_nodeAt
set_option maxRecDepth 20000 in
theorem ggX4_resend_X2_postAgain : GoodIn wsX4_resend wsX2_postAgain := goodIn_r _ [12, 13, 14, 15, 16, 17, 18, 19, 11, 20, 21, 22, 23, 24, 25, 26, 27, 28, 29, 30, 31, 32, 33, 34, 35, 36, 37, 38, 39, 40, 41, 42, 43, 44, 45, 46, 47, 48, 49, 50, 51, 52, 53, 54, 55, 56, 57, 58, 59, 60, 61, 62, 63, 64, 65, 66, 67, 68, 69, 70, 71, 72, 73, 74, 75, 76, 77, 78, 79, 80, 81, 82, 83, 84, 85, 86, 87, 88, 89, 90, 91, 92, 93, 94, 95, 99, 100, 101, 102, 103, 104, 105, 106, 107, 108, 109, 110] (by decide +kernel) (by decide +kernel)
set_option maxRecDepth 20000 in
theorem gX4_resend_X2_postAgain : GoodIn wsX4_resend (wsV RX4 104 RX2 yX2_postAgain wsX2_postAgain) := goodIn_app (goodIn_of _ (by decide +kernel)) ggX4_resend_X2_postAgain
theorem dX4_resend_0 : decode cX4_resend 0 = .ok (.aload_n 0, 1) := by decide +kernel
theorem dX4_resend_1 : decode cX4_resend 1 = .ok (.iload_n 1, 1) := by decide +kernel
theorem dX4_resend_2 : decode cX4_resend 2 = .ok (.invokevirtual 34, 3) := by decide +kernel
theorem dX4_resend_5 : decode cX4_resend 5 = .ok (.astore_n 2, 1) := by decide +kernel
theorem dX4_resend_6 : decode cX4_resend 6 = .ok (.aload_n 2, 1) := by decide +kernel
theorem dX4_resend_7 : decode cX4_resend 7 = .ok (.ifnonnull 6, 3) := by decide +kernel
theorem dX4_resend_10 : decode cX4_resend 10 = .ok (.bipush (-2), 2) := by decide +kernel
theorem dX4_resend_12 : decode cX4_resend 12 = .ok (.ireturn, 1) := by decide +kernel
theorem dX4_resend_13 : decode cX4_resend 13 = .ok (.aload_n 2, 1) := by decide +kernel
theorem dX4_resend_14 : decode cX4_resend 14 = .ok (.getfield 101, 3) := by decide +kernel
theorem dX4_resend_17 : decode cX4_resend 17 = .ok (.iconst 3, 1) := by decide +kernel
theorem dX4_resend_18 : decode cX4_resend 18 = .ok (.if_icmp .ne 8, 3) := by decide +kernel
theorem dX4_resend_21 : decode cX4_resend 21 = .ok (.bipush (-3), 2) := by decide +kernel
theorem dX4_resend_23 : decode cX4_resend 23 = .ok (.goto 7, 3) := by decide +kernel
theorem dX4_resend_26 : decode cX4_resend 26 = .ok (.aload_n 2, 1) := by decide +kernel
theorem dX4_resend_27 : decode cX4_resend 27 = .ok (.invokevirtual 104, 3) := by decide +kernel
theorem dX4_resend_30 : decode cX4_resend 30 = .ok (.ireturn, 1) := by decide +kernel
set_option maxRecDepth 20000 in
theorem ggX4_crash_X4_nodeAt : GoodIn wsX4_crash wsX4_nodeAt := goodIn_r _ [7, 8, 62, 63, 64] (by decide +kernel) (by decide +kernel)
set_option maxRecDepth 20000 in
theorem gX4_crash_X4_nodeAt : GoodIn wsX4_crash (wsV RX4 34 RX4 yX4_nodeAt wsX4_nodeAt) := goodIn_app (goodIn_of _ (by decide +kernel)) ggX4_crash_X4_nodeAt
set_option maxRecDepth 20000 in
theorem ggX4_crash_X1_size : GoodIn wsX4_crash wsX1_size := goodIn_r _ [13, 14, 65] (by decide +kernel) (by decide +kernel)
set_option maxRecDepth 20000 in
theorem gX4_crash_X1_size : GoodIn wsX4_crash (wsV RX4 54 RX1 yX1_size wsX1_size) := goodIn_app (goodIn_of _ (by decide +kernel)) ggX4_crash_X1_size
set_option maxRecDepth 20000 in
theorem ggX4_crash_X2_loseAll : GoodIn wsX4_crash wsX2_loseAll := goodIn_r _ [19, 20, 21, 22, 23, 24, 25, 26, 27, 28, 29, 30, 18, 31, 32, 33, 34, 35, 36, 37, 38, 39, 40, 41, 42, 43, 44, 45, 46, 47, 48, 49, 50, 51, 52, 53, 54, 55, 56, 57, 58, 59, 60, 61] (by decide +kernel) (by decide +kernel)
set_option maxRecDepth 20000 in
theorem gX4_crash_X2_loseAll : GoodIn wsX4_crash (wsV RX4 107 RX2 yX2_loseAll wsX2_loseAll) := goodIn_app (goodIn_of _ (by decide +kernel)) ggX4_crash_X2_loseAll
theorem dX4_crash_0 : decode cX4_crash 0 = .ok (.aload_n 0, 1) := by decide +kernel
theorem dX4_crash_1 : decode cX4_crash 1 = .ok (.iload_n 1, 1) := by decide +kernel
theorem dX4_crash_2 : decode cX4_crash 2 = .ok (.invokevirtual 34, 3) := by decide +kernel
theorem dX4_crash_5 : decode cX4_crash 5 = .ok (.astore_n 2, 1) := by decide +kernel
theorem dX4_crash_6 : decode cX4_crash 6 = .ok (.aload_n 2, 1) := by decide +kernel
theorem dX4_crash_7 : decode cX4_crash 7 = .ok (.ifnonnull 6, 3) := by decide +kernel
theorem dX4_crash_10 : decode cX4_crash 10 = .ok (.bipush (-2), 2) := by decide +kernel
theorem dX4_crash_12 : decode cX4_crash 12 = .ok (.ireturn, 1) := by decide +kernel
theorem dX4_crash_13 : decode cX4_crash 13 = .ok (.aload_n 2, 1) := by decide +kernel
theorem dX4_crash_14 : decode cX4_crash 14 = .ok (.getfield 101, 3) := by decide +kernel
theorem dX4_crash_17 : decode cX4_crash 17 = .ok (.iconst 3, 1) := by decide +kernel
theorem dX4_crash_18 : decode cX4_crash 18 = .ok (.if_icmp .ne 6, 3) := by decide +kernel
theorem dX4_crash_21 : decode cX4_crash 21 = .ok (.bipush (-3), 2) := by decide +kernel
theorem dX4_crash_23 : decode cX4_crash 23 = .ok (.ireturn, 1) := by decide +kernel
theorem dX4_crash_24 : decode cX4_crash 24 = .ok (.aload_n 2, 1) := by decide +kernel
theorem dX4_crash_25 : decode cX4_crash 25 = .ok (.getfield 46, 3) := by decide +kernel
theorem dX4_crash_28 : decode cX4_crash 28 = .ok (.invokevirtual 54, 3) := by decide +kernel
theorem dX4_crash_31 : decode cX4_crash 31 = .ok (.istore_n 3, 1) := by decide +kernel
theorem dX4_crash_32 : decode cX4_crash 32 = .ok (.aload_n 2, 1) := by decide +kernel
theorem dX4_crash_33 : decode cX4_crash 33 = .ok (.invokevirtual 107, 3) := by decide +kernel
theorem dX4_crash_36 : decode cX4_crash 36 = .ok (.iload_n 3, 1) := by decide +kernel
theorem dX4_crash_37 : decode cX4_crash 37 = .ok (.ireturn, 1) := by decide +kernel
set_option maxRecDepth 20000 in
theorem ggX4_recover_X4_nodeAt : GoodIn wsX4_recover wsX4_nodeAt := goodIn_r _ [7, 8, 77, 78, 79] (by decide +kernel) (by decide +kernel)
set_option maxRecDepth 20000 in
theorem gX4_recover_X4_nodeAt : GoodIn wsX4_recover (wsV RX4 34 RX4 yX4_nodeAt wsX4_nodeAt) := goodIn_app (goodIn_of _ (by decide +kernel)) ggX4_recover_X4_nodeAt
set_option maxRecDepth 20000 in
theorem ggX4_recover_X2_startRecovery : GoodIn wsX4_recover wsX2_startRecovery := goodIn_r _ [13, 14, 15, 16, 17, 18, 12, 19, 20, 21, 22, 23, 24, 25, 26, 27, 28, 29, 30, 31, 32, 33, 34, 35, 36, 37, 38, 39, 40, 41, 42, 43, 44, 45, 46, 47, 48, 49, 50, 51, 52, 53, 54, 55, 56, 57, 58, 59, 60, 61, 62, 63, 64, 65, 66, 67, 68, 69, 70, 71, 72, 73, 74, 75, 76, 80, 81, 82, 83, 84, 85, 86, 87, 88, 89, 90] (by decide +kernel) (by decide +kernel)
set_option maxRecDepth 20000 in
theorem gX4_recover_X2_startRecovery : GoodIn wsX4_recover (wsV RX4 111 RX2 yX2_startRecovery wsX2_startRecovery) := goodIn_app (goodIn_of _ (by decide +kernel)) ggX4_recover_X2_startRecovery
theorem dX4_recover_0 : decode cX4_recover 0 = .ok (.aload_n 0, 1) := by decide +kernel
theorem dX4_recover_1 : decode cX4_recover 1 = .ok (.iload_n 1, 1) := by decide +kernel
theorem dX4_recover_2 : decode cX4_recover 2 = .ok (.invokevirtual 34, 3) := by decide +kernel
theorem dX4_recover_5 : decode cX4_recover 5 = .ok (.astore_n 3, 1) := by decide +kernel
theorem dX4_recover_6 : decode cX4_recover 6 = .ok (.aload_n 3, 1) := by decide +kernel
theorem dX4_recover_7 : decode cX4_recover 7 = .ok (.ifnull 13, 3) := by decide +kernel
theorem dX4_recover_10 : decode cX4_recover 10 = .ok (.iload_n 2, 1) := by decide +kernel
theorem dX4_recover_11 : decode cX4_recover 11 = .ok (.ifCond .lt 9, 3) := by decide +kernel
theorem dX4_recover_14 : decode cX4_recover 14 = .ok (.iload_n 2, 1) := by decide +kernel
theorem dX4_recover_15 : decode cX4_recover 15 = .ok (.ldc 110, 2) := by decide +kernel
theorem dX4_recover_17 : decode cX4_recover 17 = .ok (.if_icmp .le 6, 3) := by decide +kernel
theorem dX4_recover_20 : decode cX4_recover 20 = .ok (.bipush (-2), 2) := by decide +kernel
theorem dX4_recover_22 : decode cX4_recover 22 = .ok (.ireturn, 1) := by decide +kernel
theorem dX4_recover_23 : decode cX4_recover 23 = .ok (.aload_n 3, 1) := by decide +kernel
theorem dX4_recover_24 : decode cX4_recover 24 = .ok (.getfield 101, 3) := by decide +kernel
theorem dX4_recover_27 : decode cX4_recover 27 = .ok (.iconst 3, 1) := by decide +kernel
theorem dX4_recover_28 : decode cX4_recover 28 = .ok (.if_icmp .eq 6, 3) := by decide +kernel
theorem dX4_recover_31 : decode cX4_recover 31 = .ok (.bipush (-3), 2) := by decide +kernel
theorem dX4_recover_33 : decode cX4_recover 33 = .ok (.ireturn, 1) := by decide +kernel
theorem dX4_recover_34 : decode cX4_recover 34 = .ok (.aload_n 3, 1) := by decide +kernel
theorem dX4_recover_35 : decode cX4_recover 35 = .ok (.iload_n 2, 1) := by decide +kernel
theorem dX4_recover_36 : decode cX4_recover 36 = .ok (.invokevirtual 111, 3) := by decide +kernel
theorem dX4_recover_39 : decode cX4_recover 39 = .ok (.iconst 1, 1) := by decide +kernel
theorem dX4_recover_40 : decode cX4_recover 40 = .ok (.ireturn, 1) := by decide +kernel
set_option maxRecDepth 20000 in
theorem ggX4_node_X4_nodeAt : GoodIn wsX4_node wsX4_nodeAt := goodIn_r _ [5, 6, 37, 38, 39] (by decide +kernel) (by decide +kernel)
set_option maxRecDepth 20000 in
theorem gX4_node_X4_nodeAt : GoodIn wsX4_node (wsV RX4 34 RX4 yX4_nodeAt wsX4_nodeAt) := goodIn_app (goodIn_of _ (by decide +kernel)) ggX4_node_X4_nodeAt
set_option maxRecDepth 20000 in
theorem ggX4_node_X2_field : GoodIn wsX4_node wsX2_field := goodIn_r _ [11, 12, 13, 14, 15, 16, 17, 18, 19, 20, 21, 22, 23, 24, 25, 26, 27, 28, 29, 30, 31, 32, 33, 34, 35, 10, 36, 40, 41, 42, 43, 44, 45, 46, 47, 48, 49, 50, 51, 52, 53, 54, 55, 56, 57] (by decide +kernel) (by decide +kernel)
set_option maxRecDepth 20000 in
theorem gX4_node_X2_field : GoodIn wsX4_node (wsV RX4 114 RX2 yX2_field wsX2_field) := goodIn_app (goodIn_of _ (by decide +kernel)) ggX4_node_X2_field
theorem dX4_node_0 : decode cX4_node 0 = .ok (.aload_n 0, 1) := by decide +kernel
theorem dX4_node_1 : decode cX4_node 1 = .ok (.iload_n 1, 1) := by decide +kernel
theorem dX4_node_2 : decode cX4_node 2 = .ok (.invokevirtual 34, 3) := by decide +kernel
theorem dX4_node_5 : decode cX4_node 5 = .ok (.astore_n 3, 1) := by decide +kernel
theorem dX4_node_6 : decode cX4_node 6 = .ok (.aload_n 3, 1) := by decide +kernel
theorem dX4_node_7 : decode cX4_node 7 = .ok (.ifnonnull 8, 3) := by decide +kernel
theorem dX4_node_10 : decode cX4_node 10 = .ok (.bipush (-2), 2) := by decide +kernel
theorem dX4_node_12 : decode cX4_node 12 = .ok (.goto 8, 3) := by decide +kernel
theorem dX4_node_15 : decode cX4_node 15 = .ok (.aload_n 3, 1) := by decide +kernel
theorem dX4_node_16 : decode cX4_node 16 = .ok (.iload_n 2, 1) := by decide +kernel
theorem dX4_node_17 : decode cX4_node 17 = .ok (.invokevirtual 114, 3) := by decide +kernel
theorem dX4_node_20 : decode cX4_node 20 = .ok (.ireturn, 1) := by decide +kernel
set_option maxRecDepth 20000 in
theorem ggX4_entry_X4_nodeAt : GoodIn wsX4_entry wsX4_nodeAt := goodIn_r _ [7, 8, 37, 38, 39] (by decide +kernel) (by decide +kernel)
set_option maxRecDepth 20000 in
theorem gX4_entry_X4_nodeAt : GoodIn wsX4_entry (wsV RX4 34 RX4 yX4_nodeAt wsX4_nodeAt) := goodIn_app (goodIn_of _ (by decide +kernel)) ggX4_entry_X4_nodeAt
set_option maxRecDepth 20000 in
theorem ggX4_entry_X1_field : GoodIn wsX4_entry wsX1_field := goodIn_r _ [13, 14, 15, 16, 17, 18, 12, 19, 40] (by decide +kernel) (by decide +kernel)
set_option maxRecDepth 20000 in
theorem gX4_entry_X1_field : GoodIn wsX4_entry (wsV RX4 119 RX1 yX1_field wsX1_field) := goodIn_app (goodIn_of _ (by decide +kernel)) ggX4_entry_X1_field
theorem dX4_entry_0 : decode cX4_entry 0 = .ok (.aload_n 0, 1) := by decide +kernel
theorem dX4_entry_1 : decode cX4_entry 1 = .ok (.iload_n 1, 1) := by decide +kernel
theorem dX4_entry_2 : decode cX4_entry 2 = .ok (.invokevirtual 34, 3) := by decide +kernel
theorem dX4_entry_5 : decode cX4_entry 5 = .ok (.astore 4, 2) := by decide +kernel
theorem dX4_entry_7 : decode cX4_entry 7 = .ok (.aload 4, 2) := by decide +kernel
theorem dX4_entry_9 : decode cX4_entry 9 = .ok (.ifnonnull 8, 3) := by decide +kernel
theorem dX4_entry_12 : decode cX4_entry 12 = .ok (.ldc 118, 2) := by decide +kernel
theorem dX4_entry_14 : decode cX4_entry 14 = .ok (.goto 13, 3) := by decide +kernel
theorem dX4_entry_17 : decode cX4_entry 17 = .ok (.aload 4, 2) := by decide +kernel
theorem dX4_entry_19 : decode cX4_entry 19 = .ok (.getfield 46, 3) := by decide +kernel
theorem dX4_entry_22 : decode cX4_entry 22 = .ok (.iload_n 2, 1) := by decide +kernel
theorem dX4_entry_23 : decode cX4_entry 23 = .ok (.iload_n 3, 1) := by decide +kernel
theorem dX4_entry_24 : decode cX4_entry 24 = .ok (.invokevirtual 119, 3) := by decide +kernel
theorem dX4_entry_27 : decode cX4_entry 27 = .ok (.ireturn, 1) := by decide +kernel
set_option maxRecDepth 20000 in
theorem ggX4_register_X4_nodeAt : GoodIn wsX4_register wsX4_nodeAt := goodIn_r _ [6, 7, 35, 36, 37] (by decide +kernel) (by decide +kernel)
set_option maxRecDepth 20000 in
theorem gX4_register_X4_nodeAt : GoodIn wsX4_register (wsV RX4 34 RX4 yX4_nodeAt wsX4_nodeAt) := goodIn_app (goodIn_of _ (by decide +kernel)) ggX4_register_X4_nodeAt
set_option maxRecDepth 20000 in
theorem ggX4_register_X2_workOutRegisters : GoodIn wsX4_register wsX2_workOutRegisters := goodIn_r _ [12, 13, 14, 15, 16, 17, 18, 19, 20, 21, 22, 23, 24, 25, 26, 27, 28, 29, 30, 31, 32, 33, 34, 38, 39, 40, 41, 42, 43, 44, 45, 46, 47, 48, 49, 50, 51, 52, 53, 54, 55] (by decide +kernel) (by decide +kernel)
set_option maxRecDepth 20000 in
theorem gX4_register_X2_workOutRegisters : GoodIn wsX4_register (wsV RX4 121 RX2 yX2_workOutRegisters wsX2_workOutRegisters) := goodIn_app (goodIn_of _ (by decide +kernel)) ggX4_register_X2_workOutRegisters
theorem dX4_register_0 : decode cX4_register 0 = .ok (.aload_n 0, 1) := by decide +kernel
theorem dX4_register_1 : decode cX4_register 1 = .ok (.iload_n 1, 1) := by decide +kernel
theorem dX4_register_2 : decode cX4_register 2 = .ok (.invokevirtual 34, 3) := by decide +kernel
theorem dX4_register_5 : decode cX4_register 5 = .ok (.astore_n 3, 1) := by decide +kernel
theorem dX4_register_6 : decode cX4_register 6 = .ok (.aload_n 3, 1) := by decide +kernel
theorem dX4_register_7 : decode cX4_register 7 = .ok (.ifnull 13, 3) := by decide +kernel
theorem dX4_register_10 : decode cX4_register 10 = .ok (.iload_n 2, 1) := by decide +kernel
theorem dX4_register_11 : decode cX4_register 11 = .ok (.ifCond .lt 9, 3) := by decide +kernel
theorem dX4_register_14 : decode cX4_register 14 = .ok (.iload_n 2, 1) := by decide +kernel
theorem dX4_register_15 : decode cX4_register 15 = .ok (.bipush 8, 2) := by decide +kernel
theorem dX4_register_17 : decode cX4_register 17 = .ok (.if_icmp .lt 6, 3) := by decide +kernel
theorem dX4_register_20 : decode cX4_register 20 = .ok (.ldc 118, 2) := by decide +kernel
theorem dX4_register_22 : decode cX4_register 22 = .ok (.ireturn, 1) := by decide +kernel
theorem dX4_register_23 : decode cX4_register 23 = .ok (.aload_n 3, 1) := by decide +kernel
theorem dX4_register_24 : decode cX4_register 24 = .ok (.invokevirtual 121, 3) := by decide +kernel
theorem dX4_register_27 : decode cX4_register 27 = .ok (.iload_n 2, 1) := by decide +kernel
theorem dX4_register_28 : decode cX4_register 28 = .ok (.iaload, 1) := by decide +kernel
theorem dX4_register_29 : decode cX4_register 29 = .ok (.ireturn, 1) := by decide +kernel
set_option maxRecDepth 20000 in
theorem ggX4_known_X4_nodeAt : GoodIn wsX4_known wsX4_nodeAt := goodIn_r _ [6, 7, 42, 43, 44] (by decide +kernel) (by decide +kernel)
set_option maxRecDepth 20000 in
theorem gX4_known_X4_nodeAt : GoodIn wsX4_known (wsV RX4 34 RX4 yX4_nodeAt wsX4_nodeAt) := goodIn_app (goodIn_of _ (by decide +kernel)) ggX4_known_X4_nodeAt
set_option maxRecDepth 20000 in
theorem ggX4_known_X2_leads : GoodIn wsX4_known wsX2_leads := goodIn_r _ [12, 13, 14, 15, 16, 11, 17, 18, 19, 20, 21, 22, 23, 24, 25, 26, 27, 28, 29, 30, 31, 32, 33, 34, 35, 36, 37, 38, 39, 40, 41] (by decide +kernel) (by decide +kernel)
set_option maxRecDepth 20000 in
theorem gX4_known_X2_leads : GoodIn wsX4_known (wsV RX4 42 RX2 yX2_leads wsX2_leads) := goodIn_app (goodIn_of _ (by decide +kernel)) ggX4_known_X2_leads
theorem dX4_known_0 : decode cX4_known 0 = .ok (.aload_n 0, 1) := by decide +kernel
theorem dX4_known_1 : decode cX4_known 1 = .ok (.iload_n 1, 1) := by decide +kernel
theorem dX4_known_2 : decode cX4_known 2 = .ok (.invokevirtual 34, 3) := by decide +kernel
theorem dX4_known_5 : decode cX4_known 5 = .ok (.astore_n 3, 1) := by decide +kernel
theorem dX4_known_6 : decode cX4_known 6 = .ok (.aload_n 3, 1) := by decide +kernel
theorem dX4_known_7 : decode cX4_known 7 = .ok (.ifnull 16, 3) := by decide +kernel
theorem dX4_known_10 : decode cX4_known 10 = .ok (.aload_n 0, 1) := by decide +kernel
theorem dX4_known_11 : decode cX4_known 11 = .ok (.iload_n 2, 1) := by decide +kernel
theorem dX4_known_12 : decode cX4_known 12 = .ok (.invokevirtual 34, 3) := by decide +kernel
theorem dX4_known_15 : decode cX4_known 15 = .ok (.ifnull 8, 3) := by decide +kernel
theorem dX4_known_18 : decode cX4_known 18 = .ok (.iload_n 1, 1) := by decide +kernel
theorem dX4_known_19 : decode cX4_known 19 = .ok (.iload_n 2, 1) := by decide +kernel
theorem dX4_known_20 : decode cX4_known 20 = .ok (.if_icmp .ne 6, 3) := by decide +kernel
theorem dX4_known_23 : decode cX4_known 23 = .ok (.bipush (-2), 2) := by decide +kernel
theorem dX4_known_25 : decode cX4_known 25 = .ok (.ireturn, 1) := by decide +kernel
theorem dX4_known_26 : decode cX4_known 26 = .ok (.aload_n 3, 1) := by decide +kernel
theorem dX4_known_27 : decode cX4_known 27 = .ok (.invokevirtual 42, 3) := by decide +kernel
theorem dX4_known_30 : decode cX4_known 30 = .ok (.ifCond .eq 12, 3) := by decide +kernel
theorem dX4_known_33 : decode cX4_known 33 = .ok (.aload_n 3, 1) := by decide +kernel
theorem dX4_known_34 : decode cX4_known 34 = .ok (.getfield 125, 3) := by decide +kernel
theorem dX4_known_37 : decode cX4_known 37 = .ok (.iload_n 2, 1) := by decide +kernel
theorem dX4_known_38 : decode cX4_known 38 = .ok (.iaload, 1) := by decide +kernel
theorem dX4_known_39 : decode cX4_known 39 = .ok (.goto 5, 3) := by decide +kernel
theorem dX4_known_42 : decode cX4_known 42 = .ok (.bipush (-3), 2) := by decide +kernel
theorem dX4_known_44 : decode cX4_known 44 = .ok (.ireturn, 1) := by decide +kernel
set_option maxRecDepth 20000 in
theorem ggX4_letter_X3_at : GoodIn wsX4_letter wsX3_at := goodIn_r _ [6, 7, 8, 31, 32, 33] (by decide +kernel) (by decide +kernel)
set_option maxRecDepth 20000 in
theorem gX4_letter_X3_at : GoodIn wsX4_letter (wsV RX4 129 RX3 yX3_at wsX3_at) := goodIn_app (goodIn_of _ (by decide +kernel)) ggX4_letter_X3_at
set_option maxRecDepth 20000 in
theorem ggX4_letter_X0_field : GoodIn wsX4_letter wsX0_field := goodIn_r _ [13, 14, 15, 16, 17, 18, 19, 20, 21, 22, 23, 24, 25, 26, 27, 34, 35, 36, 37, 38, 39, 40, 41, 42] (by decide +kernel) (by decide +kernel)
set_option maxRecDepth 20000 in
theorem gX4_letter_X0_field : GoodIn wsX4_letter (wsV RX4 132 RX0 yX0_field wsX0_field) := goodIn_app (goodIn_of _ (by decide +kernel)) ggX4_letter_X0_field
theorem dX4_letter_0 : decode cX4_letter 0 = .ok (.aload_n 0, 1) := by decide +kernel
theorem dX4_letter_1 : decode cX4_letter 1 = .ok (.getfield 15, 3) := by decide +kernel
theorem dX4_letter_4 : decode cX4_letter 4 = .ok (.iload_n 1, 1) := by decide +kernel
theorem dX4_letter_5 : decode cX4_letter 5 = .ok (.invokevirtual 129, 3) := by decide +kernel
theorem dX4_letter_8 : decode cX4_letter 8 = .ok (.astore_n 3, 1) := by decide +kernel
theorem dX4_letter_9 : decode cX4_letter 9 = .ok (.aload_n 3, 1) := by decide +kernel
theorem dX4_letter_10 : decode cX4_letter 10 = .ok (.ifnonnull 8, 3) := by decide +kernel
theorem dX4_letter_13 : decode cX4_letter 13 = .ok (.bipush (-2), 2) := by decide +kernel
theorem dX4_letter_15 : decode cX4_letter 15 = .ok (.goto 8, 3) := by decide +kernel
theorem dX4_letter_18 : decode cX4_letter 18 = .ok (.aload_n 3, 1) := by decide +kernel
theorem dX4_letter_19 : decode cX4_letter 19 = .ok (.iload_n 2, 1) := by decide +kernel
theorem dX4_letter_20 : decode cX4_letter 20 = .ok (.invokevirtual 132, 3) := by decide +kernel
theorem dX4_letter_23 : decode cX4_letter 23 = .ok (.ireturn, 1) := by decide +kernel
set_option maxRecDepth 20000 in
theorem ggX4_count_X3_countDropped : GoodIn wsX4_count wsX3_countDropped := goodIn_r _ [8, 9, 10, 26, 27, 28, 29, 30, 31, 32, 33, 34, 35, 36] (by decide +kernel) (by decide +kernel)
set_option maxRecDepth 20000 in
theorem gX4_count_X3_countDropped : GoodIn wsX4_count (wsV RX4 136 RX3 yX3_countDropped wsX3_countDropped) := goodIn_app (goodIn_of _ (by decide +kernel)) ggX4_count_X3_countDropped
set_option maxRecDepth 20000 in
theorem ggX4_count_X4_countCutLines : GoodIn wsX4_count wsX4_countCutLines := goodIn_r _ [15, 16, 23, 24, 25] (by decide +kernel) (by decide +kernel)
set_option maxRecDepth 20000 in
theorem gX4_count_X4_countCutLines : GoodIn wsX4_count (wsV RX4 142 RX4 yX4_countCutLines wsX4_countCutLines) := goodIn_app (goodIn_of _ (by decide +kernel)) ggX4_count_X4_countCutLines
set_option maxRecDepth 20000 in
theorem ggX4_count_X4_countNormal : GoodIn wsX4_count wsX4_countNormal := goodIn_r _ [20, 21, 22, 23, 24, 25, 37, 38, 39, 40, 41, 42, 43, 44, 45, 46, 47, 48, 49, 50, 51, 52, 53] (by decide +kernel) (by decide +kernel)
set_option maxRecDepth 20000 in
theorem gX4_count_X4_countNormal : GoodIn wsX4_count (wsV RX4 145 RX4 yX4_countNormal wsX4_countNormal) := goodIn_app (goodIn_of _ (by decide +kernel)) ggX4_count_X4_countNormal
theorem dX4_count_0 : decode cX4_count 0 = .ok (.iload_n 1, 1) := by decide +kernel
theorem dX4_count_1 : decode cX4_count 1 = .ok (.tableswitch 69 0 4 #[35, 43, 51, 59, 64], 35) := by decide +kernel
theorem dX4_count_36 : decode cX4_count 36 = .ok (.aload_n 0, 1) := by decide +kernel
theorem dX4_count_37 : decode cX4_count 37 = .ok (.getfield 15, 3) := by decide +kernel
theorem dX4_count_40 : decode cX4_count 40 = .ok (.getfield 133, 3) := by decide +kernel
theorem dX4_count_43 : decode cX4_count 43 = .ok (.ireturn, 1) := by decide +kernel
theorem dX4_count_44 : decode cX4_count 44 = .ok (.aload_n 0, 1) := by decide +kernel
theorem dX4_count_45 : decode cX4_count 45 = .ok (.getfield 15, 3) := by decide +kernel
theorem dX4_count_48 : decode cX4_count 48 = .ok (.invokevirtual 136, 3) := by decide +kernel
theorem dX4_count_51 : decode cX4_count 51 = .ok (.ireturn, 1) := by decide +kernel
theorem dX4_count_52 : decode cX4_count 52 = .ok (.aload_n 0, 1) := by decide +kernel
theorem dX4_count_53 : decode cX4_count 53 = .ok (.getfield 15, 3) := by decide +kernel
theorem dX4_count_56 : decode cX4_count 56 = .ok (.getfield 139, 3) := by decide +kernel
theorem dX4_count_59 : decode cX4_count 59 = .ok (.ireturn, 1) := by decide +kernel
theorem dX4_count_60 : decode cX4_count 60 = .ok (.aload_n 0, 1) := by decide +kernel
theorem dX4_count_61 : decode cX4_count 61 = .ok (.invokevirtual 142, 3) := by decide +kernel
theorem dX4_count_64 : decode cX4_count 64 = .ok (.ireturn, 1) := by decide +kernel
theorem dX4_count_65 : decode cX4_count 65 = .ok (.aload_n 0, 1) := by decide +kernel
theorem dX4_count_66 : decode cX4_count 66 = .ok (.invokevirtual 145, 3) := by decide +kernel
theorem dX4_count_69 : decode cX4_count 69 = .ok (.ireturn, 1) := by decide +kernel
theorem dX4_count_70 : decode cX4_count 70 = .ok (.bipush (-2), 2) := by decide +kernel
theorem dX4_count_72 : decode cX4_count 72 = .ok (.ireturn, 1) := by decide +kernel
set_option maxRecDepth 20000 in
theorem ggX4_unlike_X1_isLike : GoodIn wsX4_unlike wsX1_isLike := goodIn_r _ [12, 13, 14, 15, 11, 16, 17, 18, 19, 20, 21, 22, 43] (by decide +kernel) (by decide +kernel)
set_option maxRecDepth 20000 in
theorem gX4_unlike_X1_isLike : GoodIn wsX4_unlike (wsV RX4 156 RX1 yX1_isLike wsX1_isLike) := goodIn_app (goodIn_of _ (by decide +kernel)) ggX4_unlike_X1_isLike
theorem dX4_unlike_0 : decode cX4_unlike 0 = .ok (.iconst 0, 1) := by decide +kernel
theorem dX4_unlike_1 : decode cX4_unlike 1 = .ok (.istore_n 1, 1) := by decide +kernel
theorem dX4_unlike_2 : decode cX4_unlike 2 = .ok (.iload_n 1, 1) := by decide +kernel
theorem dX4_unlike_3 : decode cX4_unlike 3 = .ok (.aload_n 0, 1) := by decide +kernel
theorem dX4_unlike_4 : decode cX4_unlike 4 = .ok (.getfield 23, 3) := by decide +kernel
theorem dX4_unlike_7 : decode cX4_unlike 7 = .ok (.arraylength, 1) := by decide +kernel
theorem dX4_unlike_8 : decode cX4_unlike 8 = .ok (.if_icmp .ge 82, 3) := by decide +kernel
theorem dX4_unlike_11 : decode cX4_unlike 11 = .ok (.iload_n 1, 1) := by decide +kernel
theorem dX4_unlike_12 : decode cX4_unlike 12 = .ok (.iconst 1, 1) := by decide +kernel
theorem dX4_unlike_13 : decode cX4_unlike 13 = .ok (.iadd, 1) := by decide +kernel
theorem dX4_unlike_14 : decode cX4_unlike 14 = .ok (.istore_n 2, 1) := by decide +kernel
theorem dX4_unlike_15 : decode cX4_unlike 15 = .ok (.iload_n 2, 1) := by decide +kernel
theorem dX4_unlike_16 : decode cX4_unlike 16 = .ok (.aload_n 0, 1) := by decide +kernel
theorem dX4_unlike_17 : decode cX4_unlike 17 = .ok (.getfield 23, 3) := by decide +kernel
theorem dX4_unlike_20 : decode cX4_unlike 20 = .ok (.arraylength, 1) := by decide +kernel
theorem dX4_unlike_21 : decode cX4_unlike 21 = .ok (.if_icmp .ge 63, 3) := by decide +kernel
theorem dX4_unlike_24 : decode cX4_unlike 24 = .ok (.aload_n 0, 1) := by decide +kernel
theorem dX4_unlike_25 : decode cX4_unlike 25 = .ok (.getfield 23, 3) := by decide +kernel
theorem dX4_unlike_28 : decode cX4_unlike 28 = .ok (.iload_n 1, 1) := by decide +kernel
theorem dX4_unlike_29 : decode cX4_unlike 29 = .ok (.aaload, 1) := by decide +kernel
theorem dX4_unlike_30 : decode cX4_unlike 30 = .ok (.getfield 148, 3) := by decide +kernel
theorem dX4_unlike_33 : decode cX4_unlike 33 = .ok (.aload_n 0, 1) := by decide +kernel
theorem dX4_unlike_34 : decode cX4_unlike 34 = .ok (.getfield 23, 3) := by decide +kernel
theorem dX4_unlike_37 : decode cX4_unlike 37 = .ok (.iload_n 2, 1) := by decide +kernel
theorem dX4_unlike_38 : decode cX4_unlike 38 = .ok (.aaload, 1) := by decide +kernel
theorem dX4_unlike_39 : decode cX4_unlike 39 = .ok (.getfield 148, 3) := by decide +kernel
theorem dX4_unlike_42 : decode cX4_unlike 42 = .ok (.invokestatic 151, 3) := by decide +kernel
theorem dX4_unlike_45 : decode cX4_unlike 45 = .ok (.istore_n 3, 1) := by decide +kernel
theorem dX4_unlike_46 : decode cX4_unlike 46 = .ok (.aload_n 0, 1) := by decide +kernel
theorem dX4_unlike_47 : decode cX4_unlike 47 = .ok (.getfield 23, 3) := by decide +kernel
theorem dX4_unlike_50 : decode cX4_unlike 50 = .ok (.iload_n 1, 1) := by decide +kernel
theorem dX4_unlike_51 : decode cX4_unlike 51 = .ok (.aaload, 1) := by decide +kernel
theorem dX4_unlike_52 : decode cX4_unlike 52 = .ok (.getfield 46, 3) := by decide +kernel
theorem dX4_unlike_55 : decode cX4_unlike 55 = .ok (.aload_n 0, 1) := by decide +kernel
theorem dX4_unlike_56 : decode cX4_unlike 56 = .ok (.getfield 23, 3) := by decide +kernel
theorem dX4_unlike_59 : decode cX4_unlike 59 = .ok (.iload_n 2, 1) := by decide +kernel
theorem dX4_unlike_60 : decode cX4_unlike 60 = .ok (.aaload, 1) := by decide +kernel
theorem dX4_unlike_61 : decode cX4_unlike 61 = .ok (.getfield 46, 3) := by decide +kernel
theorem dX4_unlike_64 : decode cX4_unlike 64 = .ok (.iload_n 3, 1) := by decide +kernel
theorem dX4_unlike_65 : decode cX4_unlike 65 = .ok (.invokevirtual 156, 3) := by decide +kernel
theorem dX4_unlike_68 : decode cX4_unlike 68 = .ok (.ifCond .ne 10, 3) := by decide +kernel
theorem dX4_unlike_71 : decode cX4_unlike 71 = .ok (.bipush 10, 2) := by decide +kernel
theorem dX4_unlike_73 : decode cX4_unlike 73 = .ok (.iload_n 1, 1) := by decide +kernel
theorem dX4_unlike_74 : decode cX4_unlike 74 = .ok (.imul, 1) := by decide +kernel
theorem dX4_unlike_75 : decode cX4_unlike 75 = .ok (.iload_n 2, 1) := by decide +kernel
theorem dX4_unlike_76 : decode cX4_unlike 76 = .ok (.iadd, 1) := by decide +kernel
theorem dX4_unlike_77 : decode cX4_unlike 77 = .ok (.ireturn, 1) := by decide +kernel
theorem dX4_unlike_78 : decode cX4_unlike 78 = .ok (.iinc 2 1, 3) := by decide +kernel
theorem dX4_unlike_81 : decode cX4_unlike 81 = .ok (.goto (-66), 3) := by decide +kernel
theorem dX4_unlike_84 : decode cX4_unlike 84 = .ok (.iinc 1 1, 3) := by decide +kernel
theorem dX4_unlike_87 : decode cX4_unlike 87 = .ok (.goto (-85), 3) := by decide +kernel
theorem dX4_unlike_90 : decode cX4_unlike 90 = .ok (.iconst (-1), 1) := by decide +kernel
theorem dX4_unlike_91 : decode cX4_unlike 91 = .ok (.ireturn, 1) := by decide +kernel
set_option maxRecDepth 20000 in
theorem ggX4_digest_X4_digestOfNode : GoodIn wsX4_digest wsX4_digestOfNode := goodIn_r _ [9, 5, 10, 11, 12, 13, 14, 15, 16, 17, 18, 19, 20, 21, 22, 23, 24, 25, 26, 27, 28, 29, 30, 31, 32, 33, 34, 35, 36, 37, 38, 39, 40, 41, 42, 43, 44, 45, 46, 47, 48, 49, 50, 51, 52, 53, 54, 55, 56, 57, 58, 59, 60, 61, 93, 94, 95, 96, 97, 98, 99, 100, 101, 102, 103, 104, 105, 106, 107, 108, 109, 110] (by decide +kernel) (by decide +kernel)
set_option maxRecDepth 20000 in
theorem gX4_digest_X4_digestOfNode : GoodIn wsX4_digest (va_wsS RX4 162 yX4_digestOfNode wsX4_digestOfNode) := goodIn_app (goodIn_of _ (by decide +kernel)) ggX4_digest_X4_digestOfNode
set_option maxRecDepth 20000 in
theorem ggX4_digest_X4_letter : GoodIn wsX4_digest wsX4_letter := goodIn_r _ [65, 3, 66, 67, 68, 69, 70, 71, 72, 73, 74, 75, 76, 77, 78, 79, 80, 81, 82, 83, 84, 85, 86, 26, 27, 28, 29, 30, 87, 88, 89, 90, 91, 92, 111, 112, 113, 114, 115, 116, 117, 118, 110] (by decide +kernel) (by decide +kernel)
set_option maxRecDepth 20000 in
theorem gX4_digest_X4_letter : GoodIn wsX4_digest (wsV RX4 168 RX4 yX4_letter wsX4_letter) := goodIn_app (goodIn_of _ (by decide +kernel)) ggX4_digest_X4_letter
theorem dX4_digest_0 : decode cX4_digest 0 = .ok (.ldc2_w 160, 3) := by decide +kernel
theorem dX4_digest_3 : decode cX4_digest 3 = .ok (.lstore_n 1, 1) := by decide +kernel
theorem dX4_digest_4 : decode cX4_digest 4 = .ok (.aload_n 0, 1) := by decide +kernel
theorem dX4_digest_5 : decode cX4_digest 5 = .ok (.getfield 23, 3) := by decide +kernel
theorem dX4_digest_8 : decode cX4_digest 8 = .ok (.astore_n 3, 1) := by decide +kernel
theorem dX4_digest_9 : decode cX4_digest 9 = .ok (.aload_n 3, 1) := by decide +kernel
theorem dX4_digest_10 : decode cX4_digest 10 = .ok (.arraylength, 1) := by decide +kernel
theorem dX4_digest_11 : decode cX4_digest 11 = .ok (.istore 4, 2) := by decide +kernel
theorem dX4_digest_13 : decode cX4_digest 13 = .ok (.iconst 0, 1) := by decide +kernel
theorem dX4_digest_14 : decode cX4_digest 14 = .ok (.istore 5, 2) := by decide +kernel
theorem dX4_digest_16 : decode cX4_digest 16 = .ok (.iload 5, 2) := by decide +kernel
theorem dX4_digest_18 : decode cX4_digest 18 = .ok (.iload 4, 2) := by decide +kernel
theorem dX4_digest_20 : decode cX4_digest 20 = .ok (.if_icmp .ge 22, 3) := by decide +kernel
theorem dX4_digest_23 : decode cX4_digest 23 = .ok (.aload_n 3, 1) := by decide +kernel
theorem dX4_digest_24 : decode cX4_digest 24 = .ok (.iload 5, 2) := by decide +kernel
theorem dX4_digest_26 : decode cX4_digest 26 = .ok (.aaload, 1) := by decide +kernel
theorem dX4_digest_27 : decode cX4_digest 27 = .ok (.astore 6, 2) := by decide +kernel
theorem dX4_digest_29 : decode cX4_digest 29 = .ok (.lload_n 1, 1) := by decide +kernel
theorem dX4_digest_30 : decode cX4_digest 30 = .ok (.aload 6, 2) := by decide +kernel
theorem dX4_digest_32 : decode cX4_digest 32 = .ok (.invokestatic 162, 3) := by decide +kernel
theorem dX4_digest_35 : decode cX4_digest 35 = .ok (.lstore_n 1, 1) := by decide +kernel
theorem dX4_digest_36 : decode cX4_digest 36 = .ok (.iinc 5 1, 3) := by decide +kernel
theorem dX4_digest_39 : decode cX4_digest 39 = .ok (.goto (-23), 3) := by decide +kernel
theorem dX4_digest_42 : decode cX4_digest 42 = .ok (.iconst 0, 1) := by decide +kernel
theorem dX4_digest_43 : decode cX4_digest 43 = .ok (.istore_n 3, 1) := by decide +kernel
theorem dX4_digest_44 : decode cX4_digest 44 = .ok (.iload_n 3, 1) := by decide +kernel
theorem dX4_digest_45 : decode cX4_digest 45 = .ok (.aload_n 0, 1) := by decide +kernel
theorem dX4_digest_46 : decode cX4_digest 46 = .ok (.getfield 15, 3) := by decide +kernel
theorem dX4_digest_49 : decode cX4_digest 49 = .ok (.getfield 133, 3) := by decide +kernel
theorem dX4_digest_52 : decode cX4_digest 52 = .ok (.if_icmp .ge 40, 3) := by decide +kernel
theorem dX4_digest_55 : decode cX4_digest 55 = .ok (.iconst 0, 1) := by decide +kernel
theorem dX4_digest_56 : decode cX4_digest 56 = .ok (.istore 4, 2) := by decide +kernel
theorem dX4_digest_58 : decode cX4_digest 58 = .ok (.iload 4, 2) := by decide +kernel
theorem dX4_digest_60 : decode cX4_digest 60 = .ok (.bipush 8, 2) := by decide +kernel
theorem dX4_digest_62 : decode cX4_digest 62 = .ok (.if_icmp .ge 24, 3) := by decide +kernel
theorem dX4_digest_65 : decode cX4_digest 65 = .ok (.ldc2_w 166, 3) := by decide +kernel
theorem dX4_digest_68 : decode cX4_digest 68 = .ok (.lload_n 1, 1) := by decide +kernel
theorem dX4_digest_69 : decode cX4_digest 69 = .ok (.lmul, 1) := by decide +kernel
theorem dX4_digest_70 : decode cX4_digest 70 = .ok (.aload_n 0, 1) := by decide +kernel
theorem dX4_digest_71 : decode cX4_digest 71 = .ok (.iload_n 3, 1) := by decide +kernel
theorem dX4_digest_72 : decode cX4_digest 72 = .ok (.iload 4, 2) := by decide +kernel
theorem dX4_digest_74 : decode cX4_digest 74 = .ok (.invokevirtual 168, 3) := by decide +kernel
theorem dX4_digest_77 : decode cX4_digest 77 = .ok (.i2l, 1) := by decide +kernel
theorem dX4_digest_78 : decode cX4_digest 78 = .ok (.ladd, 1) := by decide +kernel
theorem dX4_digest_79 : decode cX4_digest 79 = .ok (.lstore_n 1, 1) := by decide +kernel
theorem dX4_digest_80 : decode cX4_digest 80 = .ok (.iinc 4 1, 3) := by decide +kernel
theorem dX4_digest_83 : decode cX4_digest 83 = .ok (.goto (-25), 3) := by decide +kernel
theorem dX4_digest_86 : decode cX4_digest 86 = .ok (.iinc 3 1, 3) := by decide +kernel
theorem dX4_digest_89 : decode cX4_digest 89 = .ok (.goto (-45), 3) := by decide +kernel
theorem dX4_digest_92 : decode cX4_digest 92 = .ok (.lload_n 1, 1) := by decide +kernel
theorem dX4_digest_93 : decode cX4_digest 93 = .ok (.lreturn, 1) := by decide +kernel
set_option maxRecDepth 20000 in
theorem ggX4_digestOfNode_X2_field : GoodIn wsX4_digestOfNode wsX2_field := goodIn_r _ [7, 8, 9, 10, 11, 12, 13, 14, 15, 16, 17, 18, 19, 20, 21, 22, 23, 24, 25, 26, 27, 28, 29, 30, 31, 6, 32, 54, 55, 56, 57, 58, 59, 60, 61, 62, 63, 64, 65, 66, 67, 68, 69, 70, 71] (by decide +kernel) (by decide +kernel)
set_option maxRecDepth 20000 in
theorem gX4_digestOfNode_X2_field : GoodIn wsX4_digestOfNode (wsV RX4 114 RX2 yX2_field wsX2_field) := goodIn_app (goodIn_of _ (by decide +kernel)) ggX4_digestOfNode_X2_field
set_option maxRecDepth 20000 in
theorem ggX4_digestOfNode_X1_size : GoodIn wsX4_digestOfNode wsX1_size := goodIn_r _ [21, 22, 71] (by decide +kernel) (by decide +kernel)
set_option maxRecDepth 20000 in
theorem gX4_digestOfNode_X1_size : GoodIn wsX4_digestOfNode (wsV RX4 54 RX1 yX1_size wsX1_size) := goodIn_app (goodIn_of _ (by decide +kernel)) ggX4_digestOfNode_X1_size
set_option maxRecDepth 20000 in
theorem ggX4_digestOfNode_X1_field : GoodIn wsX4_digestOfNode wsX1_field := goodIn_r _ [37, 38, 22, 39, 18, 19, 20, 21, 71] (by decide +kernel) (by decide +kernel)
set_option maxRecDepth 20000 in
theorem gX4_digestOfNode_X1_field : GoodIn wsX4_digestOfNode (wsV RX4 119 RX1 yX1_field wsX1_field) := goodIn_app (goodIn_of _ (by decide +kernel)) ggX4_digestOfNode_X1_field
set_option maxRecDepth 20000 in
theorem ggX4_digestOfNode_X2_workOutRegisters : GoodIn wsX4_digestOfNode wsX2_workOutRegisters := goodIn_r _ [43, 44, 11, 12, 45, 46, 47, 48, 49, 50, 51, 20, 52, 53, 35, 36, 37, 38, 22, 39, 18, 19, 21, 54, 55, 56, 57, 58, 59, 60, 61, 62, 63, 64, 65, 66, 67, 68, 69, 70, 71] (by decide +kernel) (by decide +kernel)
set_option maxRecDepth 20000 in
theorem gX4_digestOfNode_X2_workOutRegisters : GoodIn wsX4_digestOfNode (wsV RX4 121 RX2 yX2_workOutRegisters wsX2_workOutRegisters) := goodIn_app (goodIn_of _ (by decide +kernel)) ggX4_digestOfNode_X2_workOutRegisters
theorem dX4_digestOfNode_0 : decode cX4_digestOfNode 0 = .ok (.lload_n 0, 1) := by decide +kernel
theorem dX4_digestOfNode_1 : decode cX4_digestOfNode 1 = .ok (.lstore_n 3, 1) := by decide +kernel
theorem dX4_digestOfNode_2 : decode cX4_digestOfNode 2 = .ok (.iconst 0, 1) := by decide +kernel
theorem dX4_digestOfNode_3 : decode cX4_digestOfNode 3 = .ok (.istore 5, 2) := by decide +kernel
theorem dX4_digestOfNode_5 : decode cX4_digestOfNode 5 = .ok (.iload 5, 2) := by decide +kernel
theorem dX4_digestOfNode_7 : decode cX4_digestOfNode 7 = .ok (.bipush 9, 2) := by decide +kernel
theorem dX4_digestOfNode_9 : decode cX4_digestOfNode 9 = .ok (.if_icmp .ge 23, 3) := by decide +kernel
theorem dX4_digestOfNode_12 : decode cX4_digestOfNode 12 = .ok (.ldc2_w 166, 3) := by decide +kernel
theorem dX4_digestOfNode_15 : decode cX4_digestOfNode 15 = .ok (.lload_n 3, 1) := by decide +kernel
theorem dX4_digestOfNode_16 : decode cX4_digestOfNode 16 = .ok (.lmul, 1) := by decide +kernel
theorem dX4_digestOfNode_17 : decode cX4_digestOfNode 17 = .ok (.aload_n 2, 1) := by decide +kernel
theorem dX4_digestOfNode_18 : decode cX4_digestOfNode 18 = .ok (.iload 5, 2) := by decide +kernel
theorem dX4_digestOfNode_20 : decode cX4_digestOfNode 20 = .ok (.invokevirtual 114, 3) := by decide +kernel
theorem dX4_digestOfNode_23 : decode cX4_digestOfNode 23 = .ok (.i2l, 1) := by decide +kernel
theorem dX4_digestOfNode_24 : decode cX4_digestOfNode 24 = .ok (.ladd, 1) := by decide +kernel
theorem dX4_digestOfNode_25 : decode cX4_digestOfNode 25 = .ok (.lstore_n 3, 1) := by decide +kernel
theorem dX4_digestOfNode_26 : decode cX4_digestOfNode 26 = .ok (.iinc 5 1, 3) := by decide +kernel
theorem dX4_digestOfNode_29 : decode cX4_digestOfNode 29 = .ok (.goto (-24), 3) := by decide +kernel
theorem dX4_digestOfNode_32 : decode cX4_digestOfNode 32 = .ok (.iconst 1, 1) := by decide +kernel
theorem dX4_digestOfNode_33 : decode cX4_digestOfNode 33 = .ok (.istore 5, 2) := by decide +kernel
theorem dX4_digestOfNode_35 : decode cX4_digestOfNode 35 = .ok (.iload 5, 2) := by decide +kernel
theorem dX4_digestOfNode_37 : decode cX4_digestOfNode 37 = .ok (.aload_n 2, 1) := by decide +kernel
theorem dX4_digestOfNode_38 : decode cX4_digestOfNode 38 = .ok (.getfield 46, 3) := by decide +kernel
theorem dX4_digestOfNode_41 : decode cX4_digestOfNode 41 = .ok (.invokevirtual 54, 3) := by decide +kernel
theorem dX4_digestOfNode_44 : decode cX4_digestOfNode 44 = .ok (.if_icmp .gt 44, 3) := by decide +kernel
theorem dX4_digestOfNode_47 : decode cX4_digestOfNode 47 = .ok (.iconst 0, 1) := by decide +kernel
theorem dX4_digestOfNode_48 : decode cX4_digestOfNode 48 = .ok (.istore 6, 2) := by decide +kernel
theorem dX4_digestOfNode_50 : decode cX4_digestOfNode 50 = .ok (.iload 6, 2) := by decide +kernel
theorem dX4_digestOfNode_52 : decode cX4_digestOfNode 52 = .ok (.bipush 6, 2) := by decide +kernel
theorem dX4_digestOfNode_54 : decode cX4_digestOfNode 54 = .ok (.if_icmp .ge 28, 3) := by decide +kernel
theorem dX4_digestOfNode_57 : decode cX4_digestOfNode 57 = .ok (.ldc2_w 166, 3) := by decide +kernel
theorem dX4_digestOfNode_60 : decode cX4_digestOfNode 60 = .ok (.lload_n 3, 1) := by decide +kernel
theorem dX4_digestOfNode_61 : decode cX4_digestOfNode 61 = .ok (.lmul, 1) := by decide +kernel
theorem dX4_digestOfNode_62 : decode cX4_digestOfNode 62 = .ok (.aload_n 2, 1) := by decide +kernel
theorem dX4_digestOfNode_63 : decode cX4_digestOfNode 63 = .ok (.getfield 46, 3) := by decide +kernel
theorem dX4_digestOfNode_66 : decode cX4_digestOfNode 66 = .ok (.iload 5, 2) := by decide +kernel
theorem dX4_digestOfNode_68 : decode cX4_digestOfNode 68 = .ok (.iload 6, 2) := by decide +kernel
theorem dX4_digestOfNode_70 : decode cX4_digestOfNode 70 = .ok (.invokevirtual 119, 3) := by decide +kernel
theorem dX4_digestOfNode_73 : decode cX4_digestOfNode 73 = .ok (.i2l, 1) := by decide +kernel
theorem dX4_digestOfNode_74 : decode cX4_digestOfNode 74 = .ok (.ladd, 1) := by decide +kernel
theorem dX4_digestOfNode_75 : decode cX4_digestOfNode 75 = .ok (.lstore_n 3, 1) := by decide +kernel
theorem dX4_digestOfNode_76 : decode cX4_digestOfNode 76 = .ok (.iinc 6 1, 3) := by decide +kernel
theorem dX4_digestOfNode_79 : decode cX4_digestOfNode 79 = .ok (.goto (-29), 3) := by decide +kernel
theorem dX4_digestOfNode_82 : decode cX4_digestOfNode 82 = .ok (.iinc 5 1, 3) := by decide +kernel
theorem dX4_digestOfNode_85 : decode cX4_digestOfNode 85 = .ok (.goto (-50), 3) := by decide +kernel
theorem dX4_digestOfNode_88 : decode cX4_digestOfNode 88 = .ok (.aload_n 2, 1) := by decide +kernel
theorem dX4_digestOfNode_89 : decode cX4_digestOfNode 89 = .ok (.invokevirtual 121, 3) := by decide +kernel
theorem dX4_digestOfNode_92 : decode cX4_digestOfNode 92 = .ok (.astore 5, 2) := by decide +kernel
theorem dX4_digestOfNode_94 : decode cX4_digestOfNode 94 = .ok (.aload 5, 2) := by decide +kernel
theorem dX4_digestOfNode_96 : decode cX4_digestOfNode 96 = .ok (.arraylength, 1) := by decide +kernel
theorem dX4_digestOfNode_97 : decode cX4_digestOfNode 97 = .ok (.istore 6, 2) := by decide +kernel
theorem dX4_digestOfNode_99 : decode cX4_digestOfNode 99 = .ok (.iconst 0, 1) := by decide +kernel
theorem dX4_digestOfNode_100 : decode cX4_digestOfNode 100 = .ok (.istore 7, 2) := by decide +kernel
theorem dX4_digestOfNode_102 : decode cX4_digestOfNode 102 = .ok (.iload 7, 2) := by decide +kernel
theorem dX4_digestOfNode_104 : decode cX4_digestOfNode 104 = .ok (.iload 6, 2) := by decide +kernel
theorem dX4_digestOfNode_106 : decode cX4_digestOfNode 106 = .ok (.if_icmp .ge 26, 3) := by decide +kernel
theorem dX4_digestOfNode_109 : decode cX4_digestOfNode 109 = .ok (.aload 5, 2) := by decide +kernel
theorem dX4_digestOfNode_111 : decode cX4_digestOfNode 111 = .ok (.iload 7, 2) := by decide +kernel
theorem dX4_digestOfNode_113 : decode cX4_digestOfNode 113 = .ok (.iaload, 1) := by decide +kernel
theorem dX4_digestOfNode_114 : decode cX4_digestOfNode 114 = .ok (.istore 8, 2) := by decide +kernel
theorem dX4_digestOfNode_116 : decode cX4_digestOfNode 116 = .ok (.ldc2_w 166, 3) := by decide +kernel
theorem dX4_digestOfNode_119 : decode cX4_digestOfNode 119 = .ok (.lload_n 3, 1) := by decide +kernel
theorem dX4_digestOfNode_120 : decode cX4_digestOfNode 120 = .ok (.lmul, 1) := by decide +kernel
theorem dX4_digestOfNode_121 : decode cX4_digestOfNode 121 = .ok (.iload 8, 2) := by decide +kernel
theorem dX4_digestOfNode_123 : decode cX4_digestOfNode 123 = .ok (.i2l, 1) := by decide +kernel
theorem dX4_digestOfNode_124 : decode cX4_digestOfNode 124 = .ok (.ladd, 1) := by decide +kernel
theorem dX4_digestOfNode_125 : decode cX4_digestOfNode 125 = .ok (.lstore_n 3, 1) := by decide +kernel
theorem dX4_digestOfNode_126 : decode cX4_digestOfNode 126 = .ok (.iinc 7 1, 3) := by decide +kernel
theorem dX4_digestOfNode_129 : decode cX4_digestOfNode 129 = .ok (.goto (-27), 3) := by decide +kernel
theorem dX4_digestOfNode_132 : decode cX4_digestOfNode 132 = .ok (.lload_n 3, 1) := by decide +kernel
theorem dX4_digestOfNode_133 : decode cX4_digestOfNode 133 = .ok (.lreturn, 1) := by decide +kernel
theorem dX4_nodeAt_0 : decode cX4_nodeAt 0 = .ok (.iload_n 1, 1) := by decide +kernel
theorem dX4_nodeAt_1 : decode cX4_nodeAt 1 = .ok (.ifCond .lt 21, 3) := by decide +kernel
theorem dX4_nodeAt_4 : decode cX4_nodeAt 4 = .ok (.iload_n 1, 1) := by decide +kernel
theorem dX4_nodeAt_5 : decode cX4_nodeAt 5 = .ok (.aload_n 0, 1) := by decide +kernel
theorem dX4_nodeAt_6 : decode cX4_nodeAt 6 = .ok (.getfield 23, 3) := by decide +kernel
theorem dX4_nodeAt_9 : decode cX4_nodeAt 9 = .ok (.arraylength, 1) := by decide +kernel
theorem dX4_nodeAt_10 : decode cX4_nodeAt 10 = .ok (.if_icmp .ge 12, 3) := by decide +kernel
theorem dX4_nodeAt_13 : decode cX4_nodeAt 13 = .ok (.aload_n 0, 1) := by decide +kernel
theorem dX4_nodeAt_14 : decode cX4_nodeAt 14 = .ok (.getfield 23, 3) := by decide +kernel
theorem dX4_nodeAt_17 : decode cX4_nodeAt 17 = .ok (.iload_n 1, 1) := by decide +kernel
theorem dX4_nodeAt_18 : decode cX4_nodeAt 18 = .ok (.aaload, 1) := by decide +kernel
theorem dX4_nodeAt_19 : decode cX4_nodeAt 19 = .ok (.goto 4, 3) := by decide +kernel
theorem dX4_nodeAt_22 : decode cX4_nodeAt 22 = .ok (.aconst_null, 1) := by decide +kernel
theorem dX4_nodeAt_23 : decode cX4_nodeAt 23 = .ok (.areturn, 1) := by decide +kernel
set_option maxRecDepth 20000 in
theorem ggX4_isEntry_X4_isBelow : GoodIn wsX4_isEntry wsX4_isBelow := goodIn_r _ [5] (by decide +kernel) (by decide +kernel)
set_option maxRecDepth 20000 in
theorem gX4_isEntry_X4_isBelow : GoodIn wsX4_isEntry (va_wsS RX4 171 yX4_isBelow wsX4_isBelow) := goodIn_app (goodIn_of _ (by decide +kernel)) ggX4_isEntry_X4_isBelow
theorem dX4_isEntry_0 : decode cX4_isEntry 0 = .ok (.iload_n 0, 1) := by decide +kernel
theorem dX4_isEntry_1 : decode cX4_isEntry 1 = .ok (.iconst 4, 1) := by decide +kernel
theorem dX4_isEntry_2 : decode cX4_isEntry 2 = .ok (.invokestatic 171, 3) := by decide +kernel
theorem dX4_isEntry_5 : decode cX4_isEntry 5 = .ok (.ifCond .eq 45, 3) := by decide +kernel
theorem dX4_isEntry_8 : decode cX4_isEntry 8 = .ok (.iload_n 1, 1) := by decide +kernel
theorem dX4_isEntry_9 : decode cX4_isEntry 9 = .ok (.iconst 1, 1) := by decide +kernel
theorem dX4_isEntry_10 : decode cX4_isEntry 10 = .ok (.if_icmp .lt 40, 3) := by decide +kernel
theorem dX4_isEntry_13 : decode cX4_isEntry 13 = .ok (.iload_n 1, 1) := by decide +kernel
theorem dX4_isEntry_14 : decode cX4_isEntry 14 = .ok (.ldc 110, 2) := by decide +kernel
theorem dX4_isEntry_16 : decode cX4_isEntry 16 = .ok (.if_icmp .gt 34, 3) := by decide +kernel
theorem dX4_isEntry_19 : decode cX4_isEntry 19 = .ok (.iload_n 2, 1) := by decide +kernel
theorem dX4_isEntry_20 : decode cX4_isEntry 20 = .ok (.iconst 3, 1) := by decide +kernel
theorem dX4_isEntry_21 : decode cX4_isEntry 21 = .ok (.invokestatic 171, 3) := by decide +kernel
theorem dX4_isEntry_24 : decode cX4_isEntry 24 = .ok (.ifCond .eq 26, 3) := by decide +kernel
theorem dX4_isEntry_27 : decode cX4_isEntry 27 = .ok (.iload_n 3, 1) := by decide +kernel
theorem dX4_isEntry_28 : decode cX4_isEntry 28 = .ok (.bipush 8, 2) := by decide +kernel
theorem dX4_isEntry_30 : decode cX4_isEntry 30 = .ok (.invokestatic 171, 3) := by decide +kernel
theorem dX4_isEntry_33 : decode cX4_isEntry 33 = .ok (.ifCond .eq 17, 3) := by decide +kernel
theorem dX4_isEntry_36 : decode cX4_isEntry 36 = .ok (.iload 4, 2) := by decide +kernel
theorem dX4_isEntry_38 : decode cX4_isEntry 38 = .ok (.bipush 8, 2) := by decide +kernel
theorem dX4_isEntry_40 : decode cX4_isEntry 40 = .ok (.invokestatic 171, 3) := by decide +kernel
theorem dX4_isEntry_43 : decode cX4_isEntry 43 = .ok (.ifCond .eq 7, 3) := by decide +kernel
theorem dX4_isEntry_46 : decode cX4_isEntry 46 = .ok (.iconst 1, 1) := by decide +kernel
theorem dX4_isEntry_47 : decode cX4_isEntry 47 = .ok (.goto 4, 3) := by decide +kernel
theorem dX4_isEntry_50 : decode cX4_isEntry 50 = .ok (.iconst 0, 1) := by decide +kernel
theorem dX4_isEntry_51 : decode cX4_isEntry 51 = .ok (.ireturn, 1) := by decide +kernel
theorem dX4_isBelow_0 : decode cX4_isBelow 0 = .ok (.iload_n 0, 1) := by decide +kernel
theorem dX4_isBelow_1 : decode cX4_isBelow 1 = .ok (.ifCond .lt 12, 3) := by decide +kernel
theorem dX4_isBelow_4 : decode cX4_isBelow 4 = .ok (.iload_n 0, 1) := by decide +kernel
theorem dX4_isBelow_5 : decode cX4_isBelow 5 = .ok (.iload_n 1, 1) := by decide +kernel
theorem dX4_isBelow_6 : decode cX4_isBelow 6 = .ok (.if_icmp .ge 7, 3) := by decide +kernel
theorem dX4_isBelow_9 : decode cX4_isBelow 9 = .ok (.iconst 1, 1) := by decide +kernel
theorem dX4_isBelow_10 : decode cX4_isBelow 10 = .ok (.goto 4, 3) := by decide +kernel
theorem dX4_isBelow_13 : decode cX4_isBelow 13 = .ok (.iconst 0, 1) := by decide +kernel
theorem dX4_isBelow_14 : decode cX4_isBelow 14 = .ok (.ireturn, 1) := by decide +kernel
theorem dX4_lineBetween_0 : decode cX4_lineBetween 0 = .ok (.iload_n 1, 1) := by decide +kernel
theorem dX4_lineBetween_1 : decode cX4_lineBetween 1 = .ok (.iload_n 2, 1) := by decide +kernel
theorem dX4_lineBetween_2 : decode cX4_lineBetween 2 = .ok (.invokestatic 151, 3) := by decide +kernel
theorem dX4_lineBetween_5 : decode cX4_lineBetween 5 = .ok (.aload_n 0, 1) := by decide +kernel
theorem dX4_lineBetween_6 : decode cX4_lineBetween 6 = .ok (.getfield 23, 3) := by decide +kernel
theorem dX4_lineBetween_9 : decode cX4_lineBetween 9 = .ok (.arraylength, 1) := by decide +kernel
theorem dX4_lineBetween_10 : decode cX4_lineBetween 10 = .ok (.imul, 1) := by decide +kernel
theorem dX4_lineBetween_11 : decode cX4_lineBetween 11 = .ok (.iload_n 1, 1) := by decide +kernel
theorem dX4_lineBetween_12 : decode cX4_lineBetween 12 = .ok (.iload_n 2, 1) := by decide +kernel
theorem dX4_lineBetween_13 : decode cX4_lineBetween 13 = .ok (.invokestatic 174, 3) := by decide +kernel
theorem dX4_lineBetween_16 : decode cX4_lineBetween 16 = .ok (.iadd, 1) := by decide +kernel
theorem dX4_lineBetween_17 : decode cX4_lineBetween 17 = .ok (.ireturn, 1) := by decide +kernel
theorem dX4_countCutLines_0 : decode cX4_countCutLines 0 = .ok (.iconst 0, 1) := by decide +kernel
theorem dX4_countCutLines_1 : decode cX4_countCutLines 1 = .ok (.istore_n 1, 1) := by decide +kernel
theorem dX4_countCutLines_2 : decode cX4_countCutLines 2 = .ok (.aload_n 0, 1) := by decide +kernel
theorem dX4_countCutLines_3 : decode cX4_countCutLines 3 = .ok (.getfield 30, 3) := by decide +kernel
theorem dX4_countCutLines_6 : decode cX4_countCutLines 6 = .ok (.astore_n 2, 1) := by decide +kernel
theorem dX4_countCutLines_7 : decode cX4_countCutLines 7 = .ok (.aload_n 2, 1) := by decide +kernel
theorem dX4_countCutLines_8 : decode cX4_countCutLines 8 = .ok (.arraylength, 1) := by decide +kernel
theorem dX4_countCutLines_9 : decode cX4_countCutLines 9 = .ok (.istore_n 3, 1) := by decide +kernel
theorem dX4_countCutLines_10 : decode cX4_countCutLines 10 = .ok (.iconst 0, 1) := by decide +kernel
theorem dX4_countCutLines_11 : decode cX4_countCutLines 11 = .ok (.istore 4, 2) := by decide +kernel
theorem dX4_countCutLines_13 : decode cX4_countCutLines 13 = .ok (.iload 4, 2) := by decide +kernel
theorem dX4_countCutLines_15 : decode cX4_countCutLines 15 = .ok (.iload_n 3, 1) := by decide +kernel
theorem dX4_countCutLines_16 : decode cX4_countCutLines 16 = .ok (.if_icmp .ge 28, 3) := by decide +kernel
theorem dX4_countCutLines_19 : decode cX4_countCutLines 19 = .ok (.aload_n 2, 1) := by decide +kernel
theorem dX4_countCutLines_20 : decode cX4_countCutLines 20 = .ok (.iload 4, 2) := by decide +kernel
theorem dX4_countCutLines_22 : decode cX4_countCutLines 22 = .ok (.baload, 1) := by decide +kernel
theorem dX4_countCutLines_23 : decode cX4_countCutLines 23 = .ok (.istore 5, 2) := by decide +kernel
theorem dX4_countCutLines_25 : decode cX4_countCutLines 25 = .ok (.iload_n 1, 1) := by decide +kernel
theorem dX4_countCutLines_26 : decode cX4_countCutLines 26 = .ok (.iload 5, 2) := by decide +kernel
theorem dX4_countCutLines_28 : decode cX4_countCutLines 28 = .ok (.ifCond .eq 7, 3) := by decide +kernel
theorem dX4_countCutLines_31 : decode cX4_countCutLines 31 = .ok (.iconst 1, 1) := by decide +kernel
theorem dX4_countCutLines_32 : decode cX4_countCutLines 32 = .ok (.goto 4, 3) := by decide +kernel
theorem dX4_countCutLines_35 : decode cX4_countCutLines 35 = .ok (.iconst 0, 1) := by decide +kernel
theorem dX4_countCutLines_36 : decode cX4_countCutLines 36 = .ok (.iadd, 1) := by decide +kernel
theorem dX4_countCutLines_37 : decode cX4_countCutLines 37 = .ok (.istore_n 1, 1) := by decide +kernel
theorem dX4_countCutLines_38 : decode cX4_countCutLines 38 = .ok (.iinc 4 1, 3) := by decide +kernel
theorem dX4_countCutLines_41 : decode cX4_countCutLines 41 = .ok (.goto (-28), 3) := by decide +kernel
theorem dX4_countCutLines_44 : decode cX4_countCutLines 44 = .ok (.iload_n 1, 1) := by decide +kernel
theorem dX4_countCutLines_45 : decode cX4_countCutLines 45 = .ok (.ireturn, 1) := by decide +kernel
theorem dX4_countNormal_0 : decode cX4_countNormal 0 = .ok (.iconst 0, 1) := by decide +kernel
theorem dX4_countNormal_1 : decode cX4_countNormal 1 = .ok (.istore_n 1, 1) := by decide +kernel
theorem dX4_countNormal_2 : decode cX4_countNormal 2 = .ok (.aload_n 0, 1) := by decide +kernel
theorem dX4_countNormal_3 : decode cX4_countNormal 3 = .ok (.getfield 23, 3) := by decide +kernel
theorem dX4_countNormal_6 : decode cX4_countNormal 6 = .ok (.astore_n 2, 1) := by decide +kernel
theorem dX4_countNormal_7 : decode cX4_countNormal 7 = .ok (.aload_n 2, 1) := by decide +kernel
theorem dX4_countNormal_8 : decode cX4_countNormal 8 = .ok (.arraylength, 1) := by decide +kernel
theorem dX4_countNormal_9 : decode cX4_countNormal 9 = .ok (.istore_n 3, 1) := by decide +kernel
theorem dX4_countNormal_10 : decode cX4_countNormal 10 = .ok (.iconst 0, 1) := by decide +kernel
theorem dX4_countNormal_11 : decode cX4_countNormal 11 = .ok (.istore 4, 2) := by decide +kernel
theorem dX4_countNormal_13 : decode cX4_countNormal 13 = .ok (.iload 4, 2) := by decide +kernel
theorem dX4_countNormal_15 : decode cX4_countNormal 15 = .ok (.iload_n 3, 1) := by decide +kernel
theorem dX4_countNormal_16 : decode cX4_countNormal 16 = .ok (.if_icmp .ge 31, 3) := by decide +kernel
theorem dX4_countNormal_19 : decode cX4_countNormal 19 = .ok (.aload_n 2, 1) := by decide +kernel
theorem dX4_countNormal_20 : decode cX4_countNormal 20 = .ok (.iload 4, 2) := by decide +kernel
theorem dX4_countNormal_22 : decode cX4_countNormal 22 = .ok (.aaload, 1) := by decide +kernel
theorem dX4_countNormal_23 : decode cX4_countNormal 23 = .ok (.astore 5, 2) := by decide +kernel
theorem dX4_countNormal_25 : decode cX4_countNormal 25 = .ok (.iload_n 1, 1) := by decide +kernel
theorem dX4_countNormal_26 : decode cX4_countNormal 26 = .ok (.aload 5, 2) := by decide +kernel
theorem dX4_countNormal_28 : decode cX4_countNormal 28 = .ok (.getfield 101, 3) := by decide +kernel
theorem dX4_countNormal_31 : decode cX4_countNormal 31 = .ok (.ifCond .ne 7, 3) := by decide +kernel
theorem dX4_countNormal_34 : decode cX4_countNormal 34 = .ok (.iconst 1, 1) := by decide +kernel
theorem dX4_countNormal_35 : decode cX4_countNormal 35 = .ok (.goto 4, 3) := by decide +kernel
theorem dX4_countNormal_38 : decode cX4_countNormal 38 = .ok (.iconst 0, 1) := by decide +kernel
theorem dX4_countNormal_39 : decode cX4_countNormal 39 = .ok (.iadd, 1) := by decide +kernel
theorem dX4_countNormal_40 : decode cX4_countNormal 40 = .ok (.istore_n 1, 1) := by decide +kernel
theorem dX4_countNormal_41 : decode cX4_countNormal 41 = .ok (.iinc 4 1, 3) := by decide +kernel
theorem dX4_countNormal_44 : decode cX4_countNormal 44 = .ok (.goto (-31), 3) := by decide +kernel
theorem dX4_countNormal_47 : decode cX4_countNormal 47 = .ok (.iload_n 1, 1) := by decide +kernel
theorem dX4_countNormal_48 : decode cX4_countNormal 48 = .ok (.ireturn, 1) := by decide +kernel
