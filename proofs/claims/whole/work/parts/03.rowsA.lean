theorem dX0_init_0 : decode cX0_init 0 = .ok (.aload_n 0, 1) := by decide +kernel
theorem dX0_init_1 : decode cX0_init 1 = .ok (.invokespecial 3, 3) := by decide +kernel
theorem dX0_init_4 : decode cX0_init 4 = .ok (.aload_n 0, 1) := by decide +kernel
theorem dX0_init_5 : decode cX0_init 5 = .ok (.iload_n 1, 1) := by decide +kernel
theorem dX0_init_6 : decode cX0_init 6 = .ok (.putfield 9, 3) := by decide +kernel
theorem dX0_init_9 : decode cX0_init 9 = .ok (.aload_n 0, 1) := by decide +kernel
theorem dX0_init_10 : decode cX0_init 10 = .ok (.iload_n 2, 1) := by decide +kernel
theorem dX0_init_11 : decode cX0_init 11 = .ok (.putfield 15, 3) := by decide +kernel
theorem dX0_init_14 : decode cX0_init 14 = .ok (.aload_n 0, 1) := by decide +kernel
theorem dX0_init_15 : decode cX0_init 15 = .ok (.iload_n 3, 1) := by decide +kernel
theorem dX0_init_16 : decode cX0_init 16 = .ok (.putfield 18, 3) := by decide +kernel
theorem dX0_init_19 : decode cX0_init 19 = .ok (.aload_n 0, 1) := by decide +kernel
theorem dX0_init_20 : decode cX0_init 20 = .ok (.iload 4, 2) := by decide +kernel
theorem dX0_init_22 : decode cX0_init 22 = .ok (.putfield 21, 3) := by decide +kernel
theorem dX0_init_25 : decode cX0_init 25 = .ok (.aload_n 0, 1) := by decide +kernel
theorem dX0_init_26 : decode cX0_init 26 = .ok (.aload 5, 2) := by decide +kernel
theorem dX0_init_28 : decode cX0_init 28 = .ok (.putfield 24, 3) := by decide +kernel
theorem dX0_init_31 : decode cX0_init 31 = .ok (.aload_n 0, 1) := by decide +kernel
theorem dX0_init_32 : decode cX0_init 32 = .ok (.iload 6, 2) := by decide +kernel
theorem dX0_init_34 : decode cX0_init 34 = .ok (.putfield 28, 3) := by decide +kernel
theorem dX0_init_37 : decode cX0_init 37 = .ok (.aload_n 0, 1) := by decide +kernel
theorem dX0_init_38 : decode cX0_init 38 = .ok (.iload 7, 2) := by decide +kernel
theorem dX0_init_40 : decode cX0_init 40 = .ok (.putfield 31, 3) := by decide +kernel
theorem dX0_init_43 : decode cX0_init 43 = .ok (.return_, 1) := by decide +kernel
set_option maxRecDepth 20000 in
theorem ggX0_field_X1_size : GoodIn wsX0_field wsX1_size := goodIn_r _ [13, 14, 23] (by decide +kernel) (by decide +kernel)
set_option maxRecDepth 20000 in
theorem gX0_field_X1_size : GoodIn wsX0_field (wsV RX0 34 RX1 yX1_size wsX1_size) := goodIn_app (goodIn_of _ (by decide +kernel)) ggX0_field_X1_size
theorem dX0_field_0 : decode cX0_field 0 = .ok (.iload_n 1, 1) := by decide +kernel
theorem dX0_field_1 : decode cX0_field 1 = .ok (.tableswitch 98 0 7 #[47, 52, 57, 62, 67, 75, 80, 85], 47) := by decide +kernel
theorem dX0_field_48 : decode cX0_field 48 = .ok (.aload_n 0, 1) := by decide +kernel
theorem dX0_field_49 : decode cX0_field 49 = .ok (.getfield 9, 3) := by decide +kernel
theorem dX0_field_52 : decode cX0_field 52 = .ok (.ireturn, 1) := by decide +kernel
theorem dX0_field_53 : decode cX0_field 53 = .ok (.aload_n 0, 1) := by decide +kernel
theorem dX0_field_54 : decode cX0_field 54 = .ok (.getfield 15, 3) := by decide +kernel
theorem dX0_field_57 : decode cX0_field 57 = .ok (.ireturn, 1) := by decide +kernel
theorem dX0_field_58 : decode cX0_field 58 = .ok (.aload_n 0, 1) := by decide +kernel
theorem dX0_field_59 : decode cX0_field 59 = .ok (.getfield 18, 3) := by decide +kernel
theorem dX0_field_62 : decode cX0_field 62 = .ok (.ireturn, 1) := by decide +kernel
theorem dX0_field_63 : decode cX0_field 63 = .ok (.aload_n 0, 1) := by decide +kernel
theorem dX0_field_64 : decode cX0_field 64 = .ok (.getfield 21, 3) := by decide +kernel
theorem dX0_field_67 : decode cX0_field 67 = .ok (.ireturn, 1) := by decide +kernel
theorem dX0_field_68 : decode cX0_field 68 = .ok (.aload_n 0, 1) := by decide +kernel
theorem dX0_field_69 : decode cX0_field 69 = .ok (.getfield 24, 3) := by decide +kernel
theorem dX0_field_72 : decode cX0_field 72 = .ok (.invokevirtual 34, 3) := by decide +kernel
theorem dX0_field_75 : decode cX0_field 75 = .ok (.ireturn, 1) := by decide +kernel
theorem dX0_field_76 : decode cX0_field 76 = .ok (.aload_n 0, 1) := by decide +kernel
theorem dX0_field_77 : decode cX0_field 77 = .ok (.getfield 28, 3) := by decide +kernel
theorem dX0_field_80 : decode cX0_field 80 = .ok (.ireturn, 1) := by decide +kernel
theorem dX0_field_81 : decode cX0_field 81 = .ok (.aload_n 0, 1) := by decide +kernel
theorem dX0_field_82 : decode cX0_field 82 = .ok (.getfield 31, 3) := by decide +kernel
theorem dX0_field_85 : decode cX0_field 85 = .ok (.ireturn, 1) := by decide +kernel
theorem dX0_field_86 : decode cX0_field 86 = .ok (.aload_n 0, 1) := by decide +kernel
theorem dX0_field_87 : decode cX0_field 87 = .ok (.getfield 40, 3) := by decide +kernel
theorem dX0_field_90 : decode cX0_field 90 = .ok (.ifCond .eq 7, 3) := by decide +kernel
theorem dX0_field_93 : decode cX0_field 93 = .ok (.iconst 1, 1) := by decide +kernel
theorem dX0_field_94 : decode cX0_field 94 = .ok (.goto 4, 3) := by decide +kernel
theorem dX0_field_97 : decode cX0_field 97 = .ok (.iconst 0, 1) := by decide +kernel
theorem dX0_field_98 : decode cX0_field 98 = .ok (.ireturn, 1) := by decide +kernel
theorem dX0_field_99 : decode cX0_field 99 = .ok (.bipush (-2), 2) := by decide +kernel
theorem dX0_field_101 : decode cX0_field 101 = .ok (.ireturn, 1) := by decide +kernel
theorem dX1_init_0 : decode cX1_init 0 = .ok (.aload_n 0, 1) := by decide +kernel
theorem dX1_init_1 : decode cX1_init 1 = .ok (.invokespecial 3, 3) := by decide +kernel
theorem dX1_init_4 : decode cX1_init 4 = .ok (.aload_n 0, 1) := by decide +kernel
theorem dX1_init_5 : decode cX1_init 5 = .ok (.aload_n 1, 1) := by decide +kernel
theorem dX1_init_6 : decode cX1_init 6 = .ok (.putfield 9, 3) := by decide +kernel
theorem dX1_init_9 : decode cX1_init 9 = .ok (.return_, 1) := by decide +kernel
theorem dX1_size_0 : decode cX1_size 0 = .ok (.aload_n 0, 1) := by decide +kernel
theorem dX1_size_1 : decode cX1_size 1 = .ok (.getfield 9, 3) := by decide +kernel
theorem dX1_size_4 : decode cX1_size 4 = .ok (.arraylength, 1) := by decide +kernel
theorem dX1_size_5 : decode cX1_size 5 = .ok (.bipush 6, 2) := by decide +kernel
theorem dX1_size_7 : decode cX1_size 7 = .ok (.idiv, 1) := by decide +kernel
theorem dX1_size_8 : decode cX1_size 8 = .ok (.ireturn, 1) := by decide +kernel
set_option maxRecDepth 20000 in
theorem ggX1_field_X1_size : GoodIn wsX1_field wsX1_size := goodIn_r _ [7, 2, 8] (by decide +kernel) (by decide +kernel)
set_option maxRecDepth 20000 in
theorem gX1_field_X1_size : GoodIn wsX1_field (wsV RX1 15 RX1 yX1_size wsX1_size) := goodIn_app (goodIn_of _ (by decide +kernel)) ggX1_field_X1_size
theorem dX1_field_0 : decode cX1_field 0 = .ok (.iload_n 1, 1) := by decide +kernel
theorem dX1_field_1 : decode cX1_field 1 = .ok (.iconst 1, 1) := by decide +kernel
theorem dX1_field_2 : decode cX1_field 2 = .ok (.if_icmp .lt 21, 3) := by decide +kernel
theorem dX1_field_5 : decode cX1_field 5 = .ok (.iload_n 1, 1) := by decide +kernel
theorem dX1_field_6 : decode cX1_field 6 = .ok (.aload_n 0, 1) := by decide +kernel
theorem dX1_field_7 : decode cX1_field 7 = .ok (.invokevirtual 15, 3) := by decide +kernel
theorem dX1_field_10 : decode cX1_field 10 = .ok (.if_icmp .gt 13, 3) := by decide +kernel
theorem dX1_field_13 : decode cX1_field 13 = .ok (.iload_n 2, 1) := by decide +kernel
theorem dX1_field_14 : decode cX1_field 14 = .ok (.ifCond .lt 9, 3) := by decide +kernel
theorem dX1_field_17 : decode cX1_field 17 = .ok (.iload_n 2, 1) := by decide +kernel
theorem dX1_field_18 : decode cX1_field 18 = .ok (.bipush 6, 2) := by decide +kernel
theorem dX1_field_20 : decode cX1_field 20 = .ok (.if_icmp .lt 6, 3) := by decide +kernel
theorem dX1_field_23 : decode cX1_field 23 = .ok (.ldc 19, 2) := by decide +kernel
theorem dX1_field_25 : decode cX1_field 25 = .ok (.ireturn, 1) := by decide +kernel
theorem dX1_field_26 : decode cX1_field 26 = .ok (.aload_n 0, 1) := by decide +kernel
theorem dX1_field_27 : decode cX1_field 27 = .ok (.getfield 9, 3) := by decide +kernel
theorem dX1_field_30 : decode cX1_field 30 = .ok (.iload_n 1, 1) := by decide +kernel
theorem dX1_field_31 : decode cX1_field 31 = .ok (.iconst 1, 1) := by decide +kernel
theorem dX1_field_32 : decode cX1_field 32 = .ok (.isub, 1) := by decide +kernel
theorem dX1_field_33 : decode cX1_field 33 = .ok (.bipush 6, 2) := by decide +kernel
theorem dX1_field_35 : decode cX1_field 35 = .ok (.imul, 1) := by decide +kernel
theorem dX1_field_36 : decode cX1_field 36 = .ok (.iload_n 2, 1) := by decide +kernel
theorem dX1_field_37 : decode cX1_field 37 = .ok (.iadd, 1) := by decide +kernel
theorem dX1_field_38 : decode cX1_field 38 = .ok (.iaload, 1) := by decide +kernel
theorem dX1_field_39 : decode cX1_field 39 = .ok (.ireturn, 1) := by decide +kernel
set_option maxRecDepth 20000 in
theorem ggX1_with_J7_copyOf_59c91 : GoodIn wsX1_with wsJ7_copyOf_59c91 := goodIn_r _ [8, 9, 10, 11, 12, 13, 14, 15, 16, 17, 18, 19, 20, 21, 22, 23] (by decide +kernel) (by decide +kernel)
set_option maxRecDepth 20000 in
theorem gX1_with_J7_copyOf_59c91 : GoodIn wsX1_with (va_wsS RX1 20 yJ7_copyOf_59c91 wsJ7_copyOf_59c91) := goodIn_app (goodIn_of _ (by decide +kernel)) ggX1_with_J7_copyOf_59c91
set_option maxRecDepth 20000 in
theorem ggX1_with_X1_init : GoodIn wsX1_with wsX1_init := goodIn_r _ [26, 27, 28, 29, 1, 30] (by decide +kernel) (by decide +kernel)
set_option maxRecDepth 20000 in
theorem gX1_with_X1_init : GoodIn wsX1_with (wsX1_init) := ggX1_with_X1_init
theorem dX1_with_0 : decode cX1_with 0 = .ok (.aload_n 0, 1) := by decide +kernel
theorem dX1_with_1 : decode cX1_with 1 = .ok (.getfield 9, 3) := by decide +kernel
theorem dX1_with_4 : decode cX1_with 4 = .ok (.arraylength, 1) := by decide +kernel
theorem dX1_with_5 : decode cX1_with 5 = .ok (.istore 7, 2) := by decide +kernel
theorem dX1_with_7 : decode cX1_with 7 = .ok (.aload_n 0, 1) := by decide +kernel
theorem dX1_with_8 : decode cX1_with 8 = .ok (.getfield 9, 3) := by decide +kernel
theorem dX1_with_11 : decode cX1_with 11 = .ok (.iload 7, 2) := by decide +kernel
theorem dX1_with_13 : decode cX1_with 13 = .ok (.bipush 6, 2) := by decide +kernel
theorem dX1_with_15 : decode cX1_with 15 = .ok (.iadd, 1) := by decide +kernel
theorem dX1_with_16 : decode cX1_with 16 = .ok (.invokestatic 20, 3) := by decide +kernel
theorem dX1_with_19 : decode cX1_with 19 = .ok (.astore 8, 2) := by decide +kernel
theorem dX1_with_21 : decode cX1_with 21 = .ok (.aload 8, 2) := by decide +kernel
theorem dX1_with_23 : decode cX1_with 23 = .ok (.iload 7, 2) := by decide +kernel
theorem dX1_with_25 : decode cX1_with 25 = .ok (.iconst 0, 1) := by decide +kernel
theorem dX1_with_26 : decode cX1_with 26 = .ok (.iadd, 1) := by decide +kernel
theorem dX1_with_27 : decode cX1_with 27 = .ok (.iload_n 1, 1) := by decide +kernel
theorem dX1_with_28 : decode cX1_with 28 = .ok (.iastore, 1) := by decide +kernel
theorem dX1_with_29 : decode cX1_with 29 = .ok (.aload 8, 2) := by decide +kernel
theorem dX1_with_31 : decode cX1_with 31 = .ok (.iload 7, 2) := by decide +kernel
theorem dX1_with_33 : decode cX1_with 33 = .ok (.iconst 1, 1) := by decide +kernel
theorem dX1_with_34 : decode cX1_with 34 = .ok (.iadd, 1) := by decide +kernel
theorem dX1_with_35 : decode cX1_with 35 = .ok (.iload_n 2, 1) := by decide +kernel
theorem dX1_with_36 : decode cX1_with 36 = .ok (.iastore, 1) := by decide +kernel
theorem dX1_with_37 : decode cX1_with 37 = .ok (.aload 8, 2) := by decide +kernel
theorem dX1_with_39 : decode cX1_with 39 = .ok (.iload 7, 2) := by decide +kernel
theorem dX1_with_41 : decode cX1_with 41 = .ok (.iconst 2, 1) := by decide +kernel
theorem dX1_with_42 : decode cX1_with 42 = .ok (.iadd, 1) := by decide +kernel
theorem dX1_with_43 : decode cX1_with 43 = .ok (.iload_n 3, 1) := by decide +kernel
theorem dX1_with_44 : decode cX1_with 44 = .ok (.iastore, 1) := by decide +kernel
theorem dX1_with_45 : decode cX1_with 45 = .ok (.aload 8, 2) := by decide +kernel
theorem dX1_with_47 : decode cX1_with 47 = .ok (.iload 7, 2) := by decide +kernel
theorem dX1_with_49 : decode cX1_with 49 = .ok (.iconst 3, 1) := by decide +kernel
theorem dX1_with_50 : decode cX1_with 50 = .ok (.iadd, 1) := by decide +kernel
theorem dX1_with_51 : decode cX1_with 51 = .ok (.iload 4, 2) := by decide +kernel
theorem dX1_with_53 : decode cX1_with 53 = .ok (.iastore, 1) := by decide +kernel
theorem dX1_with_54 : decode cX1_with 54 = .ok (.aload 8, 2) := by decide +kernel
theorem dX1_with_56 : decode cX1_with 56 = .ok (.iload 7, 2) := by decide +kernel
theorem dX1_with_58 : decode cX1_with 58 = .ok (.iconst 4, 1) := by decide +kernel
theorem dX1_with_59 : decode cX1_with 59 = .ok (.iadd, 1) := by decide +kernel
theorem dX1_with_60 : decode cX1_with 60 = .ok (.iload 5, 2) := by decide +kernel
theorem dX1_with_62 : decode cX1_with 62 = .ok (.iastore, 1) := by decide +kernel
theorem dX1_with_63 : decode cX1_with 63 = .ok (.aload 8, 2) := by decide +kernel
theorem dX1_with_65 : decode cX1_with 65 = .ok (.iload 7, 2) := by decide +kernel
theorem dX1_with_67 : decode cX1_with 67 = .ok (.iconst 5, 1) := by decide +kernel
theorem dX1_with_68 : decode cX1_with 68 = .ok (.iadd, 1) := by decide +kernel
theorem dX1_with_69 : decode cX1_with 69 = .ok (.iload 6, 2) := by decide +kernel
theorem dX1_with_71 : decode cX1_with 71 = .ok (.iastore, 1) := by decide +kernel
theorem dX1_with_72 : decode cX1_with 72 = .ok (.new 10, 3) := by decide +kernel
theorem dX1_with_75 : decode cX1_with 75 = .ok (.dup, 1) := by decide +kernel
theorem dX1_with_76 : decode cX1_with 76 = .ok (.aload 8, 2) := by decide +kernel
theorem dX1_with_78 : decode cX1_with 78 = .ok (.invokespecial 26, 3) := by decide +kernel
theorem dX1_with_81 : decode cX1_with 81 = .ok (.areturn, 1) := by decide +kernel
set_option maxRecDepth 20000 in
theorem ggX1_answers_X1_size : GoodIn wsX1_answers wsX1_size := goodIn_r _ [5, 6, 12] (by decide +kernel) (by decide +kernel)
set_option maxRecDepth 20000 in
theorem gX1_answers_X1_size : GoodIn wsX1_answers (wsV RX1 15 RX1 yX1_size wsX1_size) := goodIn_app (goodIn_of _ (by decide +kernel)) ggX1_answers_X1_size
set_option maxRecDepth 20000 in
theorem ggX1_answers_X1_field : GoodIn wsX1_answers wsX1_field := goodIn_r _ [10, 11, 6, 1, 2, 3, 4, 5, 12] (by decide +kernel) (by decide +kernel)
set_option maxRecDepth 20000 in
theorem gX1_answers_X1_field : GoodIn wsX1_answers (wsV RX1 29 RX1 yX1_field wsX1_field) := goodIn_app (goodIn_of _ (by decide +kernel)) ggX1_answers_X1_field
theorem dX1_answers_0 : decode cX1_answers 0 = .ok (.iconst 1, 1) := by decide +kernel
theorem dX1_answers_1 : decode cX1_answers 1 = .ok (.istore_n 3, 1) := by decide +kernel
theorem dX1_answers_2 : decode cX1_answers 2 = .ok (.iload_n 3, 1) := by decide +kernel
theorem dX1_answers_3 : decode cX1_answers 3 = .ok (.aload_n 0, 1) := by decide +kernel
theorem dX1_answers_4 : decode cX1_answers 4 = .ok (.invokevirtual 15, 3) := by decide +kernel
theorem dX1_answers_7 : decode cX1_answers 7 = .ok (.if_icmp .gt 31, 3) := by decide +kernel
theorem dX1_answers_10 : decode cX1_answers 10 = .ok (.aload_n 0, 1) := by decide +kernel
theorem dX1_answers_11 : decode cX1_answers 11 = .ok (.iload_n 3, 1) := by decide +kernel
theorem dX1_answers_12 : decode cX1_answers 12 = .ok (.iconst 0, 1) := by decide +kernel
theorem dX1_answers_13 : decode cX1_answers 13 = .ok (.invokevirtual 29, 3) := by decide +kernel
theorem dX1_answers_16 : decode cX1_answers 16 = .ok (.iload_n 1, 1) := by decide +kernel
theorem dX1_answers_17 : decode cX1_answers 17 = .ok (.if_icmp .ne 15, 3) := by decide +kernel
theorem dX1_answers_20 : decode cX1_answers 20 = .ok (.aload_n 0, 1) := by decide +kernel
theorem dX1_answers_21 : decode cX1_answers 21 = .ok (.iload_n 3, 1) := by decide +kernel
theorem dX1_answers_22 : decode cX1_answers 22 = .ok (.iconst 1, 1) := by decide +kernel
theorem dX1_answers_23 : decode cX1_answers 23 = .ok (.invokevirtual 29, 3) := by decide +kernel
theorem dX1_answers_26 : decode cX1_answers 26 = .ok (.iload_n 2, 1) := by decide +kernel
theorem dX1_answers_27 : decode cX1_answers 27 = .ok (.if_icmp .lt 5, 3) := by decide +kernel
theorem dX1_answers_30 : decode cX1_answers 30 = .ok (.iconst 1, 1) := by decide +kernel
theorem dX1_answers_31 : decode cX1_answers 31 = .ok (.ireturn, 1) := by decide +kernel
theorem dX1_answers_32 : decode cX1_answers 32 = .ok (.iinc 3 1, 3) := by decide +kernel
theorem dX1_answers_35 : decode cX1_answers 35 = .ok (.goto (-33), 3) := by decide +kernel
theorem dX1_answers_38 : decode cX1_answers 38 = .ok (.iconst 0, 1) := by decide +kernel
theorem dX1_answers_39 : decode cX1_answers 39 = .ok (.ireturn, 1) := by decide +kernel
set_option maxRecDepth 20000 in
theorem ggX1_isLike_X1_field : GoodIn wsX1_isLike wsX1_field := goodIn_r _ [5, 6, 7, 8, 9, 10, 4, 11, 12] (by decide +kernel) (by decide +kernel)
set_option maxRecDepth 20000 in
theorem gX1_isLike_X1_field : GoodIn wsX1_isLike (wsV RX1 29 RX1 yX1_field wsX1_field) := goodIn_app (goodIn_of _ (by decide +kernel)) ggX1_isLike_X1_field
theorem dX1_isLike_0 : decode cX1_isLike 0 = .ok (.iconst 1, 1) := by decide +kernel
theorem dX1_isLike_1 : decode cX1_isLike 1 = .ok (.istore_n 3, 1) := by decide +kernel
theorem dX1_isLike_2 : decode cX1_isLike 2 = .ok (.iload_n 3, 1) := by decide +kernel
theorem dX1_isLike_3 : decode cX1_isLike 3 = .ok (.iload_n 2, 1) := by decide +kernel
theorem dX1_isLike_4 : decode cX1_isLike 4 = .ok (.if_icmp .gt 44, 3) := by decide +kernel
theorem dX1_isLike_7 : decode cX1_isLike 7 = .ok (.iconst 0, 1) := by decide +kernel
theorem dX1_isLike_8 : decode cX1_isLike 8 = .ok (.istore 4, 2) := by decide +kernel
theorem dX1_isLike_10 : decode cX1_isLike 10 = .ok (.iload 4, 2) := by decide +kernel
theorem dX1_isLike_12 : decode cX1_isLike 12 = .ok (.bipush 6, 2) := by decide +kernel
theorem dX1_isLike_14 : decode cX1_isLike 14 = .ok (.if_icmp .ge 28, 3) := by decide +kernel
theorem dX1_isLike_17 : decode cX1_isLike 17 = .ok (.aload_n 0, 1) := by decide +kernel
theorem dX1_isLike_18 : decode cX1_isLike 18 = .ok (.iload_n 3, 1) := by decide +kernel
theorem dX1_isLike_19 : decode cX1_isLike 19 = .ok (.iload 4, 2) := by decide +kernel
theorem dX1_isLike_21 : decode cX1_isLike 21 = .ok (.invokevirtual 29, 3) := by decide +kernel
theorem dX1_isLike_24 : decode cX1_isLike 24 = .ok (.aload_n 1, 1) := by decide +kernel
theorem dX1_isLike_25 : decode cX1_isLike 25 = .ok (.iload_n 3, 1) := by decide +kernel
theorem dX1_isLike_26 : decode cX1_isLike 26 = .ok (.iload 4, 2) := by decide +kernel
theorem dX1_isLike_28 : decode cX1_isLike 28 = .ok (.invokevirtual 29, 3) := by decide +kernel
theorem dX1_isLike_31 : decode cX1_isLike 31 = .ok (.if_icmp .eq 5, 3) := by decide +kernel
theorem dX1_isLike_34 : decode cX1_isLike 34 = .ok (.iconst 0, 1) := by decide +kernel
theorem dX1_isLike_35 : decode cX1_isLike 35 = .ok (.ireturn, 1) := by decide +kernel
theorem dX1_isLike_36 : decode cX1_isLike 36 = .ok (.iinc 4 1, 3) := by decide +kernel
theorem dX1_isLike_39 : decode cX1_isLike 39 = .ok (.goto (-29), 3) := by decide +kernel
theorem dX1_isLike_42 : decode cX1_isLike 42 = .ok (.iinc 3 1, 3) := by decide +kernel
theorem dX1_isLike_45 : decode cX1_isLike 45 = .ok (.goto (-43), 3) := by decide +kernel
theorem dX1_isLike_48 : decode cX1_isLike 48 = .ok (.iconst 1, 1) := by decide +kernel
theorem dX1_isLike_49 : decode cX1_isLike 49 = .ok (.ireturn, 1) := by decide +kernel
set_option maxRecDepth 20000 in
theorem ggX1_play_X1_field : GoodIn wsX1_play wsX1_field := goodIn_r _ [5, 6, 7, 8, 9, 10, 4, 11, 12] (by decide +kernel) (by decide +kernel)
set_option maxRecDepth 20000 in
theorem gX1_play_X1_field : GoodIn wsX1_play (wsV RX1 29 RX1 yX1_field wsX1_field) := goodIn_app (goodIn_of _ (by decide +kernel)) ggX1_play_X1_field
theorem dX1_play_0 : decode cX1_play 0 = .ok (.iconst 1, 1) := by decide +kernel
theorem dX1_play_1 : decode cX1_play 1 = .ok (.istore_n 3, 1) := by decide +kernel
theorem dX1_play_2 : decode cX1_play 2 = .ok (.iload_n 3, 1) := by decide +kernel
theorem dX1_play_3 : decode cX1_play 3 = .ok (.iload_n 1, 1) := by decide +kernel
theorem dX1_play_4 : decode cX1_play 4 = .ok (.if_icmp .gt 113, 3) := by decide +kernel
theorem dX1_play_7 : decode cX1_play 7 = .ok (.aload_n 0, 1) := by decide +kernel
theorem dX1_play_8 : decode cX1_play 8 = .ok (.iload_n 3, 1) := by decide +kernel
theorem dX1_play_9 : decode cX1_play 9 = .ok (.iconst 3, 1) := by decide +kernel
theorem dX1_play_10 : decode cX1_play 10 = .ok (.invokevirtual 29, 3) := by decide +kernel
theorem dX1_play_13 : decode cX1_play 13 = .ok (.istore 4, 2) := by decide +kernel
theorem dX1_play_15 : decode cX1_play 15 = .ok (.aload_n 0, 1) := by decide +kernel
theorem dX1_play_16 : decode cX1_play 16 = .ok (.iload_n 3, 1) := by decide +kernel
theorem dX1_play_17 : decode cX1_play 17 = .ok (.iconst 5, 1) := by decide +kernel
theorem dX1_play_18 : decode cX1_play 18 = .ok (.invokevirtual 29, 3) := by decide +kernel
theorem dX1_play_21 : decode cX1_play 21 = .ok (.istore 5, 2) := by decide +kernel
theorem dX1_play_23 : decode cX1_play 23 = .ok (.aload_n 0, 1) := by decide +kernel
theorem dX1_play_24 : decode cX1_play 24 = .ok (.iload_n 3, 1) := by decide +kernel
theorem dX1_play_25 : decode cX1_play 25 = .ok (.iconst 2, 1) := by decide +kernel
theorem dX1_play_26 : decode cX1_play 26 = .ok (.invokevirtual 29, 3) := by decide +kernel
theorem dX1_play_29 : decode cX1_play 29 = .ok (.tableswitch 82 0 2 #[27, 36, 48], 27) := by decide +kernel
theorem dX1_play_56 : decode cX1_play 56 = .ok (.aload_n 2, 1) := by decide +kernel
theorem dX1_play_57 : decode cX1_play 57 = .ok (.iload 4, 2) := by decide +kernel
theorem dX1_play_59 : decode cX1_play 59 = .ok (.iload 5, 2) := by decide +kernel
theorem dX1_play_61 : decode cX1_play 61 = .ok (.iastore, 1) := by decide +kernel
theorem dX1_play_62 : decode cX1_play 62 = .ok (.goto 49, 3) := by decide +kernel
theorem dX1_play_65 : decode cX1_play 65 = .ok (.aload_n 2, 1) := by decide +kernel
theorem dX1_play_66 : decode cX1_play 66 = .ok (.iload 4, 2) := by decide +kernel
theorem dX1_play_68 : decode cX1_play 68 = .ok (.dup2, 1) := by decide +kernel
theorem dX1_play_69 : decode cX1_play 69 = .ok (.iaload, 1) := by decide +kernel
theorem dX1_play_70 : decode cX1_play 70 = .ok (.iload 5, 2) := by decide +kernel
theorem dX1_play_72 : decode cX1_play 72 = .ok (.iadd, 1) := by decide +kernel
theorem dX1_play_73 : decode cX1_play 73 = .ok (.iastore, 1) := by decide +kernel
theorem dX1_play_74 : decode cX1_play 74 = .ok (.goto 37, 3) := by decide +kernel
theorem dX1_play_77 : decode cX1_play 77 = .ok (.aload_n 2, 1) := by decide +kernel
theorem dX1_play_78 : decode cX1_play 78 = .ok (.iload 4, 2) := by decide +kernel
theorem dX1_play_80 : decode cX1_play 80 = .ok (.iaload, 1) := by decide +kernel
theorem dX1_play_81 : decode cX1_play 81 = .ok (.iload 5, 2) := by decide +kernel
theorem dX1_play_83 : decode cX1_play 83 = .ok (.if_icmp .lt 28, 3) := by decide +kernel
theorem dX1_play_86 : decode cX1_play 86 = .ok (.aload_n 2, 1) := by decide +kernel
theorem dX1_play_87 : decode cX1_play 87 = .ok (.iload 4, 2) := by decide +kernel
theorem dX1_play_89 : decode cX1_play 89 = .ok (.dup2, 1) := by decide +kernel
theorem dX1_play_90 : decode cX1_play 90 = .ok (.iaload, 1) := by decide +kernel
theorem dX1_play_91 : decode cX1_play 91 = .ok (.iload 5, 2) := by decide +kernel
theorem dX1_play_93 : decode cX1_play 93 = .ok (.isub, 1) := by decide +kernel
theorem dX1_play_94 : decode cX1_play 94 = .ok (.iastore, 1) := by decide +kernel
theorem dX1_play_95 : decode cX1_play 95 = .ok (.aload_n 2, 1) := by decide +kernel
theorem dX1_play_96 : decode cX1_play 96 = .ok (.aload_n 0, 1) := by decide +kernel
theorem dX1_play_97 : decode cX1_play 97 = .ok (.iload_n 3, 1) := by decide +kernel
theorem dX1_play_98 : decode cX1_play 98 = .ok (.iconst 4, 1) := by decide +kernel
theorem dX1_play_99 : decode cX1_play 99 = .ok (.invokevirtual 29, 3) := by decide +kernel
theorem dX1_play_102 : decode cX1_play 102 = .ok (.dup2, 1) := by decide +kernel
theorem dX1_play_103 : decode cX1_play 103 = .ok (.iaload, 1) := by decide +kernel
theorem dX1_play_104 : decode cX1_play 104 = .ok (.iload 5, 2) := by decide +kernel
theorem dX1_play_106 : decode cX1_play 106 = .ok (.iadd, 1) := by decide +kernel
theorem dX1_play_107 : decode cX1_play 107 = .ok (.iastore, 1) := by decide +kernel
theorem dX1_play_108 : decode cX1_play 108 = .ok (.goto 3, 3) := by decide +kernel
theorem dX1_play_111 : decode cX1_play 111 = .ok (.iinc 3 1, 3) := by decide +kernel
theorem dX1_play_114 : decode cX1_play 114 = .ok (.goto (-112), 3) := by decide +kernel
theorem dX1_play_117 : decode cX1_play 117 = .ok (.return_, 1) := by decide +kernel
theorem dX2_init_0 : decode cX2_init 0 = .ok (.aload_n 0, 1) := by decide +kernel
theorem dX2_init_1 : decode cX2_init 1 = .ok (.invokespecial 3, 3) := by decide +kernel
theorem dX2_init_4 : decode cX2_init 4 = .ok (.aload_n 0, 1) := by decide +kernel
theorem dX2_init_5 : decode cX2_init 5 = .ok (.bipush 8, 2) := by decide +kernel
theorem dX2_init_7 : decode cX2_init 7 = .ok (.newarray .int, 2) := by decide +kernel
theorem dX2_init_9 : decode cX2_init 9 = .ok (.putfield 9, 3) := by decide +kernel
theorem dX2_init_12 : decode cX2_init 12 = .ok (.aload_n 0, 1) := by decide +kernel
theorem dX2_init_13 : decode cX2_init 13 = .ok (.iload_n 1, 1) := by decide +kernel
theorem dX2_init_14 : decode cX2_init 14 = .ok (.putfield 15, 3) := by decide +kernel
theorem dX2_init_17 : decode cX2_init 17 = .ok (.aload_n 0, 1) := by decide +kernel
theorem dX2_init_18 : decode cX2_init 18 = .ok (.iload_n 2, 1) := by decide +kernel
theorem dX2_init_19 : decode cX2_init 19 = .ok (.putfield 19, 3) := by decide +kernel
theorem dX2_init_22 : decode cX2_init 22 = .ok (.aload_n 0, 1) := by decide +kernel
theorem dX2_init_23 : decode cX2_init 23 = .ok (.iload_n 2, 1) := by decide +kernel
theorem dX2_init_24 : decode cX2_init 24 = .ok (.iconst 5, 1) := by decide +kernel
theorem dX2_init_25 : decode cX2_init 25 = .ok (.if_icmp .ne 7, 3) := by decide +kernel
theorem dX2_init_28 : decode cX2_init 28 = .ok (.iconst 2, 1) := by decide +kernel
theorem dX2_init_29 : decode cX2_init 29 = .ok (.goto 4, 3) := by decide +kernel
theorem dX2_init_32 : decode cX2_init 32 = .ok (.iconst 1, 1) := by decide +kernel
theorem dX2_init_33 : decode cX2_init 33 = .ok (.putfield 22, 3) := by decide +kernel
theorem dX2_init_36 : decode cX2_init 36 = .ok (.aload_n 0, 1) := by decide +kernel
theorem dX2_init_37 : decode cX2_init 37 = .ok (.aload_n 3, 1) := by decide +kernel
theorem dX2_init_38 : decode cX2_init 38 = .ok (.putfield 25, 3) := by decide +kernel
theorem dX2_init_41 : decode cX2_init 41 = .ok (.aload_n 0, 1) := by decide +kernel
theorem dX2_init_42 : decode cX2_init 42 = .ok (.aload 4, 2) := by decide +kernel
theorem dX2_init_44 : decode cX2_init 44 = .ok (.putfield 29, 3) := by decide +kernel
theorem dX2_init_47 : decode cX2_init 47 = .ok (.aload_n 0, 1) := by decide +kernel
theorem dX2_init_48 : decode cX2_init 48 = .ok (.aload 4, 2) := by decide +kernel
theorem dX2_init_50 : decode cX2_init 50 = .ok (.putfield 33, 3) := by decide +kernel
theorem dX2_init_53 : decode cX2_init 53 = .ok (.aload_n 0, 1) := by decide +kernel
theorem dX2_init_54 : decode cX2_init 54 = .ok (.iload_n 2, 1) := by decide +kernel
theorem dX2_init_55 : decode cX2_init 55 = .ok (.anewarray 36, 3) := by decide +kernel
theorem dX2_init_58 : decode cX2_init 58 = .ok (.putfield 38, 3) := by decide +kernel
theorem dX2_init_61 : decode cX2_init 61 = .ok (.aload_n 0, 1) := by decide +kernel
theorem dX2_init_62 : decode cX2_init 62 = .ok (.iload_n 2, 1) := by decide +kernel
theorem dX2_init_63 : decode cX2_init 63 = .ok (.anewarray 36, 3) := by decide +kernel
theorem dX2_init_66 : decode cX2_init 66 = .ok (.putfield 42, 3) := by decide +kernel
theorem dX2_init_69 : decode cX2_init 69 = .ok (.aload_n 0, 1) := by decide +kernel
theorem dX2_init_70 : decode cX2_init 70 = .ok (.iload_n 2, 1) := by decide +kernel
theorem dX2_init_71 : decode cX2_init 71 = .ok (.newarray .int, 2) := by decide +kernel
theorem dX2_init_73 : decode cX2_init 73 = .ok (.putfield 45, 3) := by decide +kernel
theorem dX2_init_76 : decode cX2_init 76 = .ok (.return_, 1) := by decide +kernel
set_option maxRecDepth 20000 in
theorem ggX2_field_X1_size : GoodIn wsX2_field wsX1_size := goodIn_r _ [14, 15, 44] (by decide +kernel) (by decide +kernel)
set_option maxRecDepth 20000 in
theorem gX2_field_X1_size : GoodIn wsX2_field (wsV RX2 57 RX1 yX1_size wsX1_size) := goodIn_app (goodIn_of _ (by decide +kernel)) ggX2_field_X1_size
set_option maxRecDepth 20000 in
theorem ggX2_field_J6_bitCount_0f7a4 : GoodIn wsX2_field wsJ6_bitCount_0f7a4 := goodIn_r _ [19, 20, 21, 22] (by decide +kernel) (by decide +kernel)
set_option maxRecDepth 20000 in
theorem gX2_field_J6_bitCount_0f7a4 : GoodIn wsX2_field (va_wsS RX2 68 yJ6_bitCount_0f7a4 wsJ6_bitCount_0f7a4) := goodIn_app (goodIn_of _ (by decide +kernel)) ggX2_field_J6_bitCount_0f7a4
set_option maxRecDepth 20000 in
theorem ggX2_field_X2_countLetters : GoodIn wsX2_field wsX2_countLetters := goodIn_r _ [26] (by decide +kernel) (by decide +kernel)
set_option maxRecDepth 20000 in
theorem gX2_field_X2_countLetters : GoodIn wsX2_field (va_wsS RX2 74 yX2_countLetters wsX2_countLetters) := goodIn_app (goodIn_of _ (by decide +kernel)) ggX2_field_X2_countLetters
theorem dX2_field_0 : decode cX2_field 0 = .ok (.aload_n 0, 1) := by decide +kernel
theorem dX2_field_1 : decode cX2_field 1 = .ok (.getfield 48, 3) := by decide +kernel
theorem dX2_field_4 : decode cX2_field 4 = .ok (.iconst 1, 1) := by decide +kernel
theorem dX2_field_5 : decode cX2_field 5 = .ok (.if_icmp .ne 7, 3) := by decide +kernel
theorem dX2_field_8 : decode cX2_field 8 = .ok (.iconst 1, 1) := by decide +kernel
theorem dX2_field_9 : decode cX2_field 9 = .ok (.goto 4, 3) := by decide +kernel
theorem dX2_field_12 : decode cX2_field 12 = .ok (.iconst 0, 1) := by decide +kernel
theorem dX2_field_13 : decode cX2_field 13 = .ok (.istore_n 2, 1) := by decide +kernel
theorem dX2_field_14 : decode cX2_field 14 = .ok (.iload_n 1, 1) := by decide +kernel
theorem dX2_field_15 : decode cX2_field 15 = .ok (.tableswitch 146 0 8 #[49, 54, 59, 64, 72, 77, 93, 109, 126], 49) := by decide +kernel
theorem dX2_field_64 : decode cX2_field 64 = .ok (.aload_n 0, 1) := by decide +kernel
theorem dX2_field_65 : decode cX2_field 65 = .ok (.getfield 48, 3) := by decide +kernel
theorem dX2_field_68 : decode cX2_field 68 = .ok (.ireturn, 1) := by decide +kernel
theorem dX2_field_69 : decode cX2_field 69 = .ok (.aload_n 0, 1) := by decide +kernel
theorem dX2_field_70 : decode cX2_field 70 = .ok (.getfield 51, 3) := by decide +kernel
theorem dX2_field_73 : decode cX2_field 73 = .ok (.ireturn, 1) := by decide +kernel
theorem dX2_field_74 : decode cX2_field 74 = .ok (.aload_n 0, 1) := by decide +kernel
theorem dX2_field_75 : decode cX2_field 75 = .ok (.getfield 54, 3) := by decide +kernel
theorem dX2_field_78 : decode cX2_field 78 = .ok (.ireturn, 1) := by decide +kernel
theorem dX2_field_79 : decode cX2_field 79 = .ok (.aload_n 0, 1) := by decide +kernel
theorem dX2_field_80 : decode cX2_field 80 = .ok (.getfield 33, 3) := by decide +kernel
theorem dX2_field_83 : decode cX2_field 83 = .ok (.invokevirtual 57, 3) := by decide +kernel
theorem dX2_field_86 : decode cX2_field 86 = .ok (.ireturn, 1) := by decide +kernel
theorem dX2_field_87 : decode cX2_field 87 = .ok (.aload_n 0, 1) := by decide +kernel
theorem dX2_field_88 : decode cX2_field 88 = .ok (.getfield 62, 3) := by decide +kernel
theorem dX2_field_91 : decode cX2_field 91 = .ok (.ireturn, 1) := by decide +kernel
theorem dX2_field_92 : decode cX2_field 92 = .ok (.iload_n 2, 1) := by decide +kernel
theorem dX2_field_93 : decode cX2_field 93 = .ok (.ifCond .eq 13, 3) := by decide +kernel
theorem dX2_field_96 : decode cX2_field 96 = .ok (.aload_n 0, 1) := by decide +kernel
theorem dX2_field_97 : decode cX2_field 97 = .ok (.getfield 65, 3) := by decide +kernel
theorem dX2_field_100 : decode cX2_field 100 = .ok (.invokestatic 68, 3) := by decide +kernel
theorem dX2_field_103 : decode cX2_field 103 = .ok (.goto 4, 3) := by decide +kernel
theorem dX2_field_106 : decode cX2_field 106 = .ok (.iconst 0, 1) := by decide +kernel
theorem dX2_field_107 : decode cX2_field 107 = .ok (.ireturn, 1) := by decide +kernel
theorem dX2_field_108 : decode cX2_field 108 = .ok (.iload_n 2, 1) := by decide +kernel
theorem dX2_field_109 : decode cX2_field 109 = .ok (.ifCond .eq 13, 3) := by decide +kernel
theorem dX2_field_112 : decode cX2_field 112 = .ok (.aload_n 0, 1) := by decide +kernel
theorem dX2_field_113 : decode cX2_field 113 = .ok (.getfield 38, 3) := by decide +kernel
theorem dX2_field_116 : decode cX2_field 116 = .ok (.invokestatic 74, 3) := by decide +kernel
theorem dX2_field_119 : decode cX2_field 119 = .ok (.goto 4, 3) := by decide +kernel
theorem dX2_field_122 : decode cX2_field 122 = .ok (.iconst 0, 1) := by decide +kernel
theorem dX2_field_123 : decode cX2_field 123 = .ok (.ireturn, 1) := by decide +kernel
theorem dX2_field_124 : decode cX2_field 124 = .ok (.iload_n 2, 1) := by decide +kernel
theorem dX2_field_125 : decode cX2_field 125 = .ok (.ifCond .eq 14, 3) := by decide +kernel
theorem dX2_field_128 : decode cX2_field 128 = .ok (.aload_n 0, 1) := by decide +kernel
theorem dX2_field_129 : decode cX2_field 129 = .ok (.getfield 78, 3) := by decide +kernel
theorem dX2_field_132 : decode cX2_field 132 = .ok (.ifCond .eq 7, 3) := by decide +kernel
theorem dX2_field_135 : decode cX2_field 135 = .ok (.iconst 1, 1) := by decide +kernel
theorem dX2_field_136 : decode cX2_field 136 = .ok (.goto 4, 3) := by decide +kernel
theorem dX2_field_139 : decode cX2_field 139 = .ok (.iconst 0, 1) := by decide +kernel
theorem dX2_field_140 : decode cX2_field 140 = .ok (.ireturn, 1) := by decide +kernel
theorem dX2_field_141 : decode cX2_field 141 = .ok (.aload_n 0, 1) := by decide +kernel
theorem dX2_field_142 : decode cX2_field 142 = .ok (.getfield 48, 3) := by decide +kernel
theorem dX2_field_145 : decode cX2_field 145 = .ok (.iconst 2, 1) := by decide +kernel
theorem dX2_field_146 : decode cX2_field 146 = .ok (.if_icmp .ne 13, 3) := by decide +kernel
theorem dX2_field_149 : decode cX2_field 149 = .ok (.aload_n 0, 1) := by decide +kernel
theorem dX2_field_150 : decode cX2_field 150 = .ok (.getfield 42, 3) := by decide +kernel
theorem dX2_field_153 : decode cX2_field 153 = .ok (.invokestatic 74, 3) := by decide +kernel
theorem dX2_field_156 : decode cX2_field 156 = .ok (.goto 4, 3) := by decide +kernel
theorem dX2_field_159 : decode cX2_field 159 = .ok (.iconst 0, 1) := by decide +kernel
theorem dX2_field_160 : decode cX2_field 160 = .ok (.ireturn, 1) := by decide +kernel
theorem dX2_field_161 : decode cX2_field 161 = .ok (.bipush (-2), 2) := by decide +kernel
theorem dX2_field_163 : decode cX2_field 163 = .ok (.ireturn, 1) := by decide +kernel
set_option maxRecDepth 20000 in
theorem ggX2_leads_X2_isFirst : GoodIn wsX2_leads wsX2_isFirst := goodIn_r _ [6, 7, 8, 9, 10, 11, 5, 12, 13, 14, 15, 16, 17, 18, 19, 20, 21, 22, 23, 24, 25, 26, 27, 28, 29, 30] (by decide +kernel) (by decide +kernel)
set_option maxRecDepth 20000 in
theorem gX2_leads_X2_isFirst : GoodIn wsX2_leads (wsV RX2 82 RX2 yX2_isFirst wsX2_isFirst) := goodIn_app (goodIn_of _ (by decide +kernel)) ggX2_leads_X2_isFirst
theorem dX2_leads_0 : decode cX2_leads 0 = .ok (.aload_n 0, 1) := by decide +kernel
theorem dX2_leads_1 : decode cX2_leads 1 = .ok (.getfield 48, 3) := by decide +kernel
theorem dX2_leads_4 : decode cX2_leads 4 = .ok (.ifCond .ne 14, 3) := by decide +kernel
theorem dX2_leads_7 : decode cX2_leads 7 = .ok (.aload_n 0, 1) := by decide +kernel
theorem dX2_leads_8 : decode cX2_leads 8 = .ok (.invokevirtual 82, 3) := by decide +kernel
theorem dX2_leads_11 : decode cX2_leads 11 = .ok (.ifCond .eq 7, 3) := by decide +kernel
theorem dX2_leads_14 : decode cX2_leads 14 = .ok (.iconst 1, 1) := by decide +kernel
theorem dX2_leads_15 : decode cX2_leads 15 = .ok (.goto 4, 3) := by decide +kernel
theorem dX2_leads_18 : decode cX2_leads 18 = .ok (.iconst 0, 1) := by decide +kernel
theorem dX2_leads_19 : decode cX2_leads 19 = .ok (.ireturn, 1) := by decide +kernel
theorem dX2_isDown_0 : decode cX2_isDown 0 = .ok (.aload_n 0, 1) := by decide +kernel
theorem dX2_isDown_1 : decode cX2_isDown 1 = .ok (.getfield 48, 3) := by decide +kernel
theorem dX2_isDown_4 : decode cX2_isDown 4 = .ok (.iconst 2, 1) := by decide +kernel
theorem dX2_isDown_5 : decode cX2_isDown 5 = .ok (.if_icmp .eq 11, 3) := by decide +kernel
theorem dX2_isDown_8 : decode cX2_isDown 8 = .ok (.aload_n 0, 1) := by decide +kernel
theorem dX2_isDown_9 : decode cX2_isDown 9 = .ok (.getfield 48, 3) := by decide +kernel
theorem dX2_isDown_12 : decode cX2_isDown 12 = .ok (.iconst 3, 1) := by decide +kernel
theorem dX2_isDown_13 : decode cX2_isDown 13 = .ok (.if_icmp .ne 7, 3) := by decide +kernel
theorem dX2_isDown_16 : decode cX2_isDown 16 = .ok (.iconst 1, 1) := by decide +kernel
theorem dX2_isDown_17 : decode cX2_isDown 17 = .ok (.goto 4, 3) := by decide +kernel
theorem dX2_isDown_20 : decode cX2_isDown 20 = .ok (.iconst 0, 1) := by decide +kernel
theorem dX2_isDown_21 : decode cX2_isDown 21 = .ok (.ireturn, 1) := by decide +kernel
set_option maxRecDepth 20000 in
theorem ggX2_workOutRegisters_J7_fill_53178 : GoodIn wsX2_workOutRegisters wsJ7_fill_53178 := goodIn_r _ [7] (by decide +kernel) (by decide +kernel)
set_option maxRecDepth 20000 in
theorem gX2_workOutRegisters_J7_fill_53178 : GoodIn wsX2_workOutRegisters (va_wsS RX2 86 yJ7_fill_53178 wsJ7_fill_53178) := goodIn_app (goodIn_of _ (by decide +kernel)) ggX2_workOutRegisters_J7_fill_53178
set_option maxRecDepth 20000 in
theorem ggX2_workOutRegisters_X1_play : GoodIn wsX2_workOutRegisters wsX1_play := goodIn_r _ [12, 13, 14, 15, 11, 16, 17, 18, 19, 20, 21, 22, 40] (by decide +kernel) (by decide +kernel)
set_option maxRecDepth 20000 in
theorem gX2_workOutRegisters_X1_play : GoodIn wsX2_workOutRegisters (wsV RX2 92 RX1 yX1_play wsX1_play) := goodIn_app (goodIn_of _ (by decide +kernel)) ggX2_workOutRegisters_X1_play
theorem dX2_workOutRegisters_0 : decode cX2_workOutRegisters 0 = .ok (.aload_n 0, 1) := by decide +kernel
theorem dX2_workOutRegisters_1 : decode cX2_workOutRegisters 1 = .ok (.getfield 9, 3) := by decide +kernel
theorem dX2_workOutRegisters_4 : decode cX2_workOutRegisters 4 = .ok (.iconst 0, 1) := by decide +kernel
theorem dX2_workOutRegisters_5 : decode cX2_workOutRegisters 5 = .ok (.invokestatic 86, 3) := by decide +kernel
theorem dX2_workOutRegisters_8 : decode cX2_workOutRegisters 8 = .ok (.aload_n 0, 1) := by decide +kernel
theorem dX2_workOutRegisters_9 : decode cX2_workOutRegisters 9 = .ok (.getfield 33, 3) := by decide +kernel
theorem dX2_workOutRegisters_12 : decode cX2_workOutRegisters 12 = .ok (.aload_n 0, 1) := by decide +kernel
theorem dX2_workOutRegisters_13 : decode cX2_workOutRegisters 13 = .ok (.getfield 62, 3) := by decide +kernel
theorem dX2_workOutRegisters_16 : decode cX2_workOutRegisters 16 = .ok (.aload_n 0, 1) := by decide +kernel
theorem dX2_workOutRegisters_17 : decode cX2_workOutRegisters 17 = .ok (.getfield 9, 3) := by decide +kernel
theorem dX2_workOutRegisters_20 : decode cX2_workOutRegisters 20 = .ok (.invokevirtual 92, 3) := by decide +kernel
theorem dX2_workOutRegisters_23 : decode cX2_workOutRegisters 23 = .ok (.aload_n 0, 1) := by decide +kernel
theorem dX2_workOutRegisters_24 : decode cX2_workOutRegisters 24 = .ok (.getfield 9, 3) := by decide +kernel
theorem dX2_workOutRegisters_27 : decode cX2_workOutRegisters 27 = .ok (.areturn, 1) := by decide +kernel
set_option maxRecDepth 20000 in
theorem ggX2_postToAll_X2_write : GoodIn wsX2_postToAll wsX2_write := goodIn_r _ [8, 9, 10, 11, 2, 12, 13, 14, 15, 16, 17, 18, 19, 20, 21, 22, 23, 24, 25, 26, 27, 28, 54, 55, 56, 57, 58, 59, 60, 61, 37, 38, 39, 40, 41, 42, 43, 44, 45, 46, 47, 48, 49, 50, 51, 52, 53] (by decide +kernel) (by decide +kernel)
set_option maxRecDepth 20000 in
theorem gX2_postToAll_X2_write : GoodIn wsX2_postToAll (wsV RX2 96 RX2 yX2_write wsX2_write) := goodIn_app (goodIn_of _ (by decide +kernel)) ggX2_postToAll_X2_write
set_option maxRecDepth 20000 in
theorem ggX2_postToAll_X3_add : GoodIn wsX2_postToAll wsX3_add := goodIn_r _ [33, 34, 35, 36, 62, 63, 64] (by decide +kernel) (by decide +kernel)
set_option maxRecDepth 20000 in
theorem gX2_postToAll_X3_add : GoodIn wsX2_postToAll (wsV RX2 100 RX3 yX3_add wsX3_add) := goodIn_app (goodIn_of _ (by decide +kernel)) ggX2_postToAll_X3_add
theorem dX2_postToAll_0 : decode cX2_postToAll 0 = .ok (.iconst 0, 1) := by decide +kernel
theorem dX2_postToAll_1 : decode cX2_postToAll 1 = .ok (.istore_n 3, 1) := by decide +kernel
theorem dX2_postToAll_2 : decode cX2_postToAll 2 = .ok (.iload_n 3, 1) := by decide +kernel
theorem dX2_postToAll_3 : decode cX2_postToAll 3 = .ok (.aload_n 0, 1) := by decide +kernel
theorem dX2_postToAll_4 : decode cX2_postToAll 4 = .ok (.getfield 19, 3) := by decide +kernel
theorem dX2_postToAll_7 : decode cX2_postToAll 7 = .ok (.if_icmp .ge 31, 3) := by decide +kernel
theorem dX2_postToAll_10 : decode cX2_postToAll 10 = .ok (.iload_n 3, 1) := by decide +kernel
theorem dX2_postToAll_11 : decode cX2_postToAll 11 = .ok (.aload_n 0, 1) := by decide +kernel
theorem dX2_postToAll_12 : decode cX2_postToAll 12 = .ok (.getfield 15, 3) := by decide +kernel
theorem dX2_postToAll_15 : decode cX2_postToAll 15 = .ok (.if_icmp .eq 17, 3) := by decide +kernel
theorem dX2_postToAll_18 : decode cX2_postToAll 18 = .ok (.aload_n 0, 1) := by decide +kernel
theorem dX2_postToAll_19 : decode cX2_postToAll 19 = .ok (.getfield 25, 3) := by decide +kernel
theorem dX2_postToAll_22 : decode cX2_postToAll 22 = .ok (.aload_n 0, 1) := by decide +kernel
theorem dX2_postToAll_23 : decode cX2_postToAll 23 = .ok (.iload_n 3, 1) := by decide +kernel
theorem dX2_postToAll_24 : decode cX2_postToAll 24 = .ok (.iload_n 1, 1) := by decide +kernel
theorem dX2_postToAll_25 : decode cX2_postToAll 25 = .ok (.iload_n 2, 1) := by decide +kernel
theorem dX2_postToAll_26 : decode cX2_postToAll 26 = .ok (.invokevirtual 96, 3) := by decide +kernel
theorem dX2_postToAll_29 : decode cX2_postToAll 29 = .ok (.invokevirtual 100, 3) := by decide +kernel
theorem dX2_postToAll_32 : decode cX2_postToAll 32 = .ok (.iinc 3 1, 3) := by decide +kernel
theorem dX2_postToAll_35 : decode cX2_postToAll 35 = .ok (.goto (-33), 3) := by decide +kernel
theorem dX2_postToAll_38 : decode cX2_postToAll 38 = .ok (.return_, 1) := by decide +kernel
set_option maxRecDepth 20000 in
theorem ggX2_changeTo_X2_forgetVotes : GoodIn wsX2_changeTo wsX2_forgetVotes := goodIn_r _ [7, 8, 9, 10, 11, 49, 50, 51, 52, 53, 54, 55, 56, 57, 58, 59, 60, 61, 62, 63, 64, 65] (by decide +kernel) (by decide +kernel)
set_option maxRecDepth 20000 in
theorem gX2_changeTo_X2_forgetVotes : GoodIn wsX2_changeTo (wsV RX2 106 RX2 yX2_forgetVotes wsX2_forgetVotes) := goodIn_app (goodIn_of _ (by decide +kernel)) ggX2_changeTo_X2_forgetVotes
set_option maxRecDepth 20000 in
theorem ggX2_changeTo_X2_postToAll : GoodIn wsX2_changeTo wsX2_postToAll := goodIn_r _ [15, 10, 16, 17, 18, 19, 20, 6, 21, 22, 23, 24, 1, 25, 26, 27, 28, 29, 30, 31, 32, 33, 34, 35, 36, 37, 38, 39, 40, 41, 42, 43, 44, 45, 46, 47, 48, 49, 50, 51, 52, 53, 54, 55, 56, 57, 58, 59, 60, 61, 62, 63, 64, 65, 66, 67, 68, 69, 70, 71, 72, 73, 74, 75, 76] (by decide +kernel) (by decide +kernel)
set_option maxRecDepth 20000 in
theorem gX2_changeTo_X2_postToAll : GoodIn wsX2_changeTo (wsV RX2 109 RX2 yX2_postToAll wsX2_postToAll) := goodIn_app (goodIn_of _ (by decide +kernel)) ggX2_changeTo_X2_postToAll
theorem dX2_changeTo_0 : decode cX2_changeTo 0 = .ok (.aload_n 0, 1) := by decide +kernel
theorem dX2_changeTo_1 : decode cX2_changeTo 1 = .ok (.iload_n 1, 1) := by decide +kernel
theorem dX2_changeTo_2 : decode cX2_changeTo 2 = .ok (.putfield 51, 3) := by decide +kernel
theorem dX2_changeTo_5 : decode cX2_changeTo 5 = .ok (.aload_n 0, 1) := by decide +kernel
theorem dX2_changeTo_6 : decode cX2_changeTo 6 = .ok (.iconst 1, 1) := by decide +kernel
theorem dX2_changeTo_7 : decode cX2_changeTo 7 = .ok (.putfield 48, 3) := by decide +kernel
theorem dX2_changeTo_10 : decode cX2_changeTo 10 = .ok (.aload_n 0, 1) := by decide +kernel
theorem dX2_changeTo_11 : decode cX2_changeTo 11 = .ok (.invokevirtual 106, 3) := by decide +kernel
theorem dX2_changeTo_14 : decode cX2_changeTo 14 = .ok (.aload_n 0, 1) := by decide +kernel
theorem dX2_changeTo_15 : decode cX2_changeTo 15 = .ok (.iconst 3, 1) := by decide +kernel
theorem dX2_changeTo_16 : decode cX2_changeTo 16 = .ok (.iconst 0, 1) := by decide +kernel
theorem dX2_changeTo_17 : decode cX2_changeTo 17 = .ok (.invokevirtual 109, 3) := by decide +kernel
theorem dX2_changeTo_20 : decode cX2_changeTo 20 = .ok (.return_, 1) := by decide +kernel
set_option maxRecDepth 20000 in
theorem ggX2_postAgain_X2_isFirst : GoodIn wsX2_postAgain wsX2_isFirst := goodIn_r _ [9, 10, 11, 12, 13, 14, 8, 15, 2, 68, 69, 70, 71, 72, 73, 74, 75, 76, 77, 78, 79, 80, 81, 82, 83, 84] (by decide +kernel) (by decide +kernel)
set_option maxRecDepth 20000 in
theorem gX2_postAgain_X2_isFirst : GoodIn wsX2_postAgain (wsV RX2 82 RX2 yX2_isFirst wsX2_isFirst) := goodIn_app (goodIn_of _ (by decide +kernel)) ggX2_postAgain_X2_isFirst
set_option maxRecDepth 20000 in
theorem ggX2_postAgain_X2_postOk : GoodIn wsX2_postAgain wsX2_postOk := goodIn_r _ [19, 20, 10, 21, 12, 13, 14, 8, 15, 2, 22, 23, 24, 25, 26, 27, 28, 29, 30, 31, 32, 33, 34, 11, 35, 36, 37, 38, 39, 40, 41, 42, 43, 44, 45, 46, 47, 48, 49, 50, 51, 52, 53, 54, 55, 56, 57, 68, 69, 70, 71, 72, 73, 74, 75, 76, 77, 78, 79, 80, 81, 82, 83, 84, 85, 86, 87, 88, 89, 90, 91, 92, 93, 94, 95, 96] (by decide +kernel) (by decide +kernel)
set_option maxRecDepth 20000 in
theorem gX2_postAgain_X2_postOk : GoodIn wsX2_postAgain (wsV RX2 113 RX2 yX2_postOk wsX2_postOk) := goodIn_app (goodIn_of _ (by decide +kernel)) ggX2_postAgain_X2_postOk
set_option maxRecDepth 20000 in
theorem ggX2_postAgain_X2_postToAll : GoodIn wsX2_postAgain wsX2_postToAll := goodIn_r _ [61, 2, 11, 20, 28, 29, 30, 8, 31, 32, 33, 34, 10, 21, 35, 36, 37, 38, 39, 40, 41, 42, 43, 44, 45, 46, 47, 48, 49, 50, 51, 52, 53, 54, 55, 56, 57, 68, 69, 70, 71, 72, 73, 74, 75, 76, 77, 78, 79, 80, 81, 82, 83, 84, 86, 87, 88, 89, 90, 91, 92, 93, 94, 95, 96] (by decide +kernel) (by decide +kernel)
set_option maxRecDepth 20000 in
theorem gX2_postAgain_X2_postToAll : GoodIn wsX2_postAgain (wsV RX2 109 RX2 yX2_postToAll wsX2_postToAll) := goodIn_app (goodIn_of _ (by decide +kernel)) ggX2_postAgain_X2_postToAll
set_option maxRecDepth 20000 in
theorem ggX2_postAgain_X2_castVote : GoodIn wsX2_postAgain wsX2_castVote := goodIn_r _ [65, 3, 10, 66, 67, 11, 20, 12, 13, 14, 8, 15, 2, 28, 29, 30, 31, 32, 33, 34, 21, 35, 36, 37, 38, 39, 40, 41, 42, 43, 44, 45, 46, 47, 48, 49, 5, 6, 7, 9, 50, 51, 52, 53, 54, 55, 56, 57, 68, 69, 70, 71, 72, 73, 74, 75, 76, 77, 78, 79, 80, 81, 82, 83, 84, 86, 87, 88, 89, 90, 91, 92, 93, 94, 95, 96] (by decide +kernel) (by decide +kernel)
set_option maxRecDepth 20000 in
theorem gX2_postAgain_X2_castVote : GoodIn wsX2_postAgain (wsV RX2 116 RX2 yX2_castVote wsX2_castVote) := goodIn_app (goodIn_of _ (by decide +kernel)) ggX2_postAgain_X2_castVote
theorem dX2_postAgain_0 : decode cX2_postAgain 0 = .ok (.aload_n 0, 1) := by decide +kernel
theorem dX2_postAgain_1 : decode cX2_postAgain 1 = .ok (.getfield 48, 3) := by decide +kernel
theorem dX2_postAgain_4 : decode cX2_postAgain 4 = .ok (.tableswitch 107 0 2 #[28, 54, 90], 28) := by decide +kernel
theorem dX2_postAgain_32 : decode cX2_postAgain 32 = .ok (.aload_n 0, 1) := by decide +kernel
theorem dX2_postAgain_33 : decode cX2_postAgain 33 = .ok (.invokevirtual 82, 3) := by decide +kernel
theorem dX2_postAgain_36 : decode cX2_postAgain 36 = .ok (.ifCond .ne 9, 3) := by decide +kernel
theorem dX2_postAgain_39 : decode cX2_postAgain 39 = .ok (.aload_n 0, 1) := by decide +kernel
theorem dX2_postAgain_40 : decode cX2_postAgain 40 = .ok (.invokevirtual 113, 3) := by decide +kernel
theorem dX2_postAgain_43 : decode cX2_postAgain 43 = .ok (.iconst 1, 1) := by decide +kernel
theorem dX2_postAgain_44 : decode cX2_postAgain 44 = .ok (.ireturn, 1) := by decide +kernel
theorem dX2_postAgain_45 : decode cX2_postAgain 45 = .ok (.aload_n 0, 1) := by decide +kernel
theorem dX2_postAgain_46 : decode cX2_postAgain 46 = .ok (.iconst 1, 1) := by decide +kernel
theorem dX2_postAgain_47 : decode cX2_postAgain 47 = .ok (.iconst 0, 1) := by decide +kernel
theorem dX2_postAgain_48 : decode cX2_postAgain 48 = .ok (.invokevirtual 109, 3) := by decide +kernel
theorem dX2_postAgain_51 : decode cX2_postAgain 51 = .ok (.aload_n 0, 1) := by decide +kernel
theorem dX2_postAgain_52 : decode cX2_postAgain 52 = .ok (.getfield 19, 3) := by decide +kernel
theorem dX2_postAgain_55 : decode cX2_postAgain 55 = .ok (.iconst 1, 1) := by decide +kernel
theorem dX2_postAgain_56 : decode cX2_postAgain 56 = .ok (.isub, 1) := by decide +kernel
theorem dX2_postAgain_57 : decode cX2_postAgain 57 = .ok (.ireturn, 1) := by decide +kernel
theorem dX2_postAgain_58 : decode cX2_postAgain 58 = .ok (.aload_n 0, 1) := by decide +kernel
theorem dX2_postAgain_59 : decode cX2_postAgain 59 = .ok (.iconst 3, 1) := by decide +kernel
theorem dX2_postAgain_60 : decode cX2_postAgain 60 = .ok (.iconst 0, 1) := by decide +kernel
theorem dX2_postAgain_61 : decode cX2_postAgain 61 = .ok (.invokevirtual 109, 3) := by decide +kernel
theorem dX2_postAgain_64 : decode cX2_postAgain 64 = .ok (.aload_n 0, 1) := by decide +kernel
theorem dX2_postAgain_65 : decode cX2_postAgain 65 = .ok (.getfield 78, 3) := by decide +kernel
theorem dX2_postAgain_68 : decode cX2_postAgain 68 = .ok (.ifCond .eq 10, 3) := by decide +kernel
theorem dX2_postAgain_71 : decode cX2_postAgain 71 = .ok (.aload_n 0, 1) := by decide +kernel
theorem dX2_postAgain_72 : decode cX2_postAgain 72 = .ok (.invokevirtual 82, 3) := by decide +kernel
theorem dX2_postAgain_75 : decode cX2_postAgain 75 = .ok (.ifCond .eq 10, 3) := by decide +kernel
theorem dX2_postAgain_78 : decode cX2_postAgain 78 = .ok (.aload_n 0, 1) := by decide +kernel
theorem dX2_postAgain_79 : decode cX2_postAgain 79 = .ok (.getfield 19, 3) := by decide +kernel
theorem dX2_postAgain_82 : decode cX2_postAgain 82 = .ok (.iconst 1, 1) := by decide +kernel
theorem dX2_postAgain_83 : decode cX2_postAgain 83 = .ok (.isub, 1) := by decide +kernel
theorem dX2_postAgain_84 : decode cX2_postAgain 84 = .ok (.ireturn, 1) := by decide +kernel
theorem dX2_postAgain_85 : decode cX2_postAgain 85 = .ok (.aload_n 0, 1) := by decide +kernel
theorem dX2_postAgain_86 : decode cX2_postAgain 86 = .ok (.invokevirtual 116, 3) := by decide +kernel
theorem dX2_postAgain_89 : decode cX2_postAgain 89 = .ok (.aload_n 0, 1) := by decide +kernel
theorem dX2_postAgain_90 : decode cX2_postAgain 90 = .ok (.getfield 19, 3) := by decide +kernel
theorem dX2_postAgain_93 : decode cX2_postAgain 93 = .ok (.ireturn, 1) := by decide +kernel
theorem dX2_postAgain_94 : decode cX2_postAgain 94 = .ok (.aload_n 0, 1) := by decide +kernel
theorem dX2_postAgain_95 : decode cX2_postAgain 95 = .ok (.bipush 6, 2) := by decide +kernel
theorem dX2_postAgain_97 : decode cX2_postAgain 97 = .ok (.aload_n 0, 1) := by decide +kernel
theorem dX2_postAgain_98 : decode cX2_postAgain 98 = .ok (.getfield 119, 3) := by decide +kernel
theorem dX2_postAgain_101 : decode cX2_postAgain 101 = .ok (.invokevirtual 109, 3) := by decide +kernel
theorem dX2_postAgain_104 : decode cX2_postAgain 104 = .ok (.aload_n 0, 1) := by decide +kernel
theorem dX2_postAgain_105 : decode cX2_postAgain 105 = .ok (.getfield 19, 3) := by decide +kernel
theorem dX2_postAgain_108 : decode cX2_postAgain 108 = .ok (.iconst 1, 1) := by decide +kernel
theorem dX2_postAgain_109 : decode cX2_postAgain 109 = .ok (.isub, 1) := by decide +kernel
theorem dX2_postAgain_110 : decode cX2_postAgain 110 = .ok (.ireturn, 1) := by decide +kernel
theorem dX2_postAgain_111 : decode cX2_postAgain 111 = .ok (.iconst 0, 1) := by decide +kernel
theorem dX2_postAgain_112 : decode cX2_postAgain 112 = .ok (.ireturn, 1) := by decide +kernel
set_option maxRecDepth 20000 in
theorem ggX2_loseAll_X2_forgetVotes : GoodIn wsX2_loseAll wsX2_forgetVotes := goodIn_r _ [13, 14, 15, 16, 17, 27, 28, 29, 30, 31, 32, 33, 34, 35, 36, 37, 38, 39, 40, 41, 42, 43] (by decide +kernel) (by decide +kernel)
set_option maxRecDepth 20000 in
theorem gX2_loseAll_X2_forgetVotes : GoodIn wsX2_loseAll (wsV RX2 106 RX2 yX2_forgetVotes wsX2_forgetVotes) := goodIn_app (goodIn_of _ (by decide +kernel)) ggX2_loseAll_X2_forgetVotes
set_option maxRecDepth 20000 in
theorem ggX2_loseAll_X2_forgetTales : GoodIn wsX2_loseAll wsX2_forgetTales := goodIn_r _ [21, 16, 22, 27, 28, 29, 30, 31, 32, 33, 34, 35, 36, 37, 38, 39, 40, 41, 42, 43] (by decide +kernel) (by decide +kernel)
set_option maxRecDepth 20000 in
theorem gX2_loseAll_X2_forgetTales : GoodIn wsX2_loseAll (wsV RX2 122 RX2 yX2_forgetTales wsX2_forgetTales) := goodIn_app (goodIn_of _ (by decide +kernel)) ggX2_loseAll_X2_forgetTales
set_option maxRecDepth 20000 in
theorem ggX2_loseAll_J7_fill_53178 : GoodIn wsX2_loseAll wsJ7_fill_53178 := goodIn_r _ [26] (by decide +kernel) (by decide +kernel)
set_option maxRecDepth 20000 in
theorem gX2_loseAll_J7_fill_53178 : GoodIn wsX2_loseAll (va_wsS RX2 86 yJ7_fill_53178 wsJ7_fill_53178) := goodIn_app (goodIn_of _ (by decide +kernel)) ggX2_loseAll_J7_fill_53178
theorem dX2_loseAll_0 : decode cX2_loseAll 0 = .ok (.aload_n 0, 1) := by decide +kernel
theorem dX2_loseAll_1 : decode cX2_loseAll 1 = .ok (.iconst 3, 1) := by decide +kernel
theorem dX2_loseAll_2 : decode cX2_loseAll 2 = .ok (.putfield 48, 3) := by decide +kernel
theorem dX2_loseAll_5 : decode cX2_loseAll 5 = .ok (.aload_n 0, 1) := by decide +kernel
theorem dX2_loseAll_6 : decode cX2_loseAll 6 = .ok (.iconst 0, 1) := by decide +kernel
theorem dX2_loseAll_7 : decode cX2_loseAll 7 = .ok (.putfield 51, 3) := by decide +kernel
theorem dX2_loseAll_10 : decode cX2_loseAll 10 = .ok (.aload_n 0, 1) := by decide +kernel
theorem dX2_loseAll_11 : decode cX2_loseAll 11 = .ok (.iconst 0, 1) := by decide +kernel
theorem dX2_loseAll_12 : decode cX2_loseAll 12 = .ok (.putfield 54, 3) := by decide +kernel
theorem dX2_loseAll_15 : decode cX2_loseAll 15 = .ok (.aload_n 0, 1) := by decide +kernel
theorem dX2_loseAll_16 : decode cX2_loseAll 16 = .ok (.iconst 0, 1) := by decide +kernel
theorem dX2_loseAll_17 : decode cX2_loseAll 17 = .ok (.putfield 62, 3) := by decide +kernel
theorem dX2_loseAll_20 : decode cX2_loseAll 20 = .ok (.aload_n 0, 1) := by decide +kernel
theorem dX2_loseAll_21 : decode cX2_loseAll 21 = .ok (.aload_n 0, 1) := by decide +kernel
theorem dX2_loseAll_22 : decode cX2_loseAll 22 = .ok (.getfield 29, 3) := by decide +kernel
theorem dX2_loseAll_25 : decode cX2_loseAll 25 = .ok (.putfield 33, 3) := by decide +kernel
theorem dX2_loseAll_28 : decode cX2_loseAll 28 = .ok (.aload_n 0, 1) := by decide +kernel
theorem dX2_loseAll_29 : decode cX2_loseAll 29 = .ok (.iconst 0, 1) := by decide +kernel
theorem dX2_loseAll_30 : decode cX2_loseAll 30 = .ok (.putfield 119, 3) := by decide +kernel
theorem dX2_loseAll_33 : decode cX2_loseAll 33 = .ok (.aload_n 0, 1) := by decide +kernel
theorem dX2_loseAll_34 : decode cX2_loseAll 34 = .ok (.invokevirtual 106, 3) := by decide +kernel
theorem dX2_loseAll_37 : decode cX2_loseAll 37 = .ok (.aload_n 0, 1) := by decide +kernel
theorem dX2_loseAll_38 : decode cX2_loseAll 38 = .ok (.invokevirtual 122, 3) := by decide +kernel
theorem dX2_loseAll_41 : decode cX2_loseAll 41 = .ok (.aload_n 0, 1) := by decide +kernel
theorem dX2_loseAll_42 : decode cX2_loseAll 42 = .ok (.getfield 45, 3) := by decide +kernel
theorem dX2_loseAll_45 : decode cX2_loseAll 45 = .ok (.iconst 0, 1) := by decide +kernel
theorem dX2_loseAll_46 : decode cX2_loseAll 46 = .ok (.invokestatic 86, 3) := by decide +kernel
theorem dX2_loseAll_49 : decode cX2_loseAll 49 = .ok (.return_, 1) := by decide +kernel
set_option maxRecDepth 20000 in
theorem ggX2_startRecovery_X2_forgetTales : GoodIn wsX2_startRecovery wsX2_forgetTales := goodIn_r _ [7, 8, 9, 48, 49, 50, 51, 52, 53, 54, 55, 56, 57, 58, 59, 60, 61, 62, 63, 64] (by decide +kernel) (by decide +kernel)
set_option maxRecDepth 20000 in
theorem gX2_startRecovery_X2_forgetTales : GoodIn wsX2_startRecovery (wsV RX2 122 RX2 yX2_forgetTales wsX2_forgetTales) := goodIn_app (goodIn_of _ (by decide +kernel)) ggX2_startRecovery_X2_forgetTales
set_option maxRecDepth 20000 in
theorem ggX2_startRecovery_X2_postToAll : GoodIn wsX2_startRecovery wsX2_postToAll := goodIn_r _ [13, 8, 14, 15, 16, 17, 18, 6, 19, 20, 21, 22, 23, 24, 25, 26, 27, 28, 29, 30, 31, 32, 33, 34, 35, 36, 37, 38, 39, 40, 41, 42, 43, 44, 45, 46, 47, 48, 49, 50, 51, 52, 53, 54, 55, 56, 57, 58, 59, 60, 61, 62, 63, 64, 65, 66, 67, 68, 69, 70, 71, 72, 73, 74, 75] (by decide +kernel) (by decide +kernel)
set_option maxRecDepth 20000 in
theorem gX2_startRecovery_X2_postToAll : GoodIn wsX2_startRecovery (wsV RX2 109 RX2 yX2_postToAll wsX2_postToAll) := goodIn_app (goodIn_of _ (by decide +kernel)) ggX2_startRecovery_X2_postToAll
theorem dX2_startRecovery_0 : decode cX2_startRecovery 0 = .ok (.aload_n 0, 1) := by decide +kernel
theorem dX2_startRecovery_1 : decode cX2_startRecovery 1 = .ok (.iconst 2, 1) := by decide +kernel
theorem dX2_startRecovery_2 : decode cX2_startRecovery 2 = .ok (.putfield 48, 3) := by decide +kernel
theorem dX2_startRecovery_5 : decode cX2_startRecovery 5 = .ok (.aload_n 0, 1) := by decide +kernel
theorem dX2_startRecovery_6 : decode cX2_startRecovery 6 = .ok (.iload_n 1, 1) := by decide +kernel
theorem dX2_startRecovery_7 : decode cX2_startRecovery 7 = .ok (.putfield 119, 3) := by decide +kernel
theorem dX2_startRecovery_10 : decode cX2_startRecovery 10 = .ok (.aload_n 0, 1) := by decide +kernel
theorem dX2_startRecovery_11 : decode cX2_startRecovery 11 = .ok (.invokevirtual 122, 3) := by decide +kernel
theorem dX2_startRecovery_14 : decode cX2_startRecovery 14 = .ok (.aload_n 0, 1) := by decide +kernel
theorem dX2_startRecovery_15 : decode cX2_startRecovery 15 = .ok (.bipush 6, 2) := by decide +kernel
theorem dX2_startRecovery_17 : decode cX2_startRecovery 17 = .ok (.aload_n 0, 1) := by decide +kernel
theorem dX2_startRecovery_18 : decode cX2_startRecovery 18 = .ok (.getfield 119, 3) := by decide +kernel
theorem dX2_startRecovery_21 : decode cX2_startRecovery 21 = .ok (.invokevirtual 109, 3) := by decide +kernel
theorem dX2_startRecovery_24 : decode cX2_startRecovery 24 = .ok (.return_, 1) := by decide +kernel
set_option maxRecDepth 20000 in
theorem ggX2_hear_X2_hearAsk : GoodIn wsX2_hear wsX2_hearAsk := goodIn_r _ [8, 9, 10, 11, 12, 13, 14, 15, 7, 16, 17, 18, 19, 20, 2, 21, 22, 23, 24, 25, 26, 27, 28, 29, 30, 31, 32, 33, 34, 35, 36, 37, 38, 39, 40, 41, 42, 43, 44, 170, 171, 172, 173, 174, 175, 176, 177, 178, 179, 180, 181, 182, 183, 184, 185, 186, 162, 163, 164, 165, 166, 167, 168, 169, 187, 188, 189] (by decide +kernel) (by decide +kernel)
set_option maxRecDepth 20000 in
theorem gX2_hear_X2_hearAsk : GoodIn wsX2_hear (wsV RX2 128 RX2 yX2_hearAsk wsX2_hearAsk) := goodIn_app (goodIn_of _ (by decide +kernel)) ggX2_hear_X2_hearAsk
set_option maxRecDepth 20000 in
theorem ggX2_hear_X2_hearTell : GoodIn wsX2_hear wsX2_hearTell := goodIn_r _ [48, 9, 49, 12, 50, 11, 51, 52, 53, 7, 54, 55, 56, 57, 58, 3, 59, 60, 61, 62, 63, 21, 64, 23, 65, 66, 67, 68, 69, 70, 71, 72, 73, 2, 74, 170, 171, 172, 173, 174, 175, 176, 177, 178, 179, 180, 181, 182, 183, 184, 185, 186, 162, 163, 164, 165, 166, 167, 168, 169] (by decide +kernel) (by decide +kernel)
set_option maxRecDepth 20000 in
theorem gX2_hear_X2_hearTell : GoodIn wsX2_hear (wsV RX2 132 RX2 yX2_hearTell wsX2_hearTell) := goodIn_app (goodIn_of _ (by decide +kernel)) ggX2_hear_X2_hearTell
set_option maxRecDepth 20000 in
theorem ggX2_hear_X2_isDown : GoodIn wsX2_hear wsX2_isDown := goodIn_r _ [78, 9, 170, 171, 172, 173, 174, 175, 176, 177, 178, 179, 180, 181, 182, 183, 184, 185, 186] (by decide +kernel) (by decide +kernel)
set_option maxRecDepth 20000 in
theorem gX2_hear_X2_isDown : GoodIn wsX2_hear (wsV RX2 135 RX2 yX2_isDown wsX2_isDown) := goodIn_app (goodIn_of _ (by decide +kernel)) ggX2_hear_X2_isDown
set_option maxRecDepth 20000 in
theorem ggX2_hear_X2_hearLog : GoodIn wsX2_hear wsX2_hearLog := goodIn_r _ [82, 2, 3, 9, 63, 21, 23, 64, 59, 60, 61, 62, 83, 84, 85, 86, 87, 88, 7, 89, 20, 65, 66, 67, 68, 69, 90, 91, 92, 93, 94, 95, 70, 71, 72, 73, 74, 96, 97, 98, 99, 10, 13, 14, 15, 16, 17, 18, 19, 22, 24, 25, 26, 27, 28, 29, 30, 31, 32, 33, 34, 35, 36, 37, 38, 39, 40, 41, 42, 43, 44, 170, 171, 172, 173, 174, 175, 176, 177, 178, 179, 180, 181, 182, 183, 184, 185, 186, 162, 163, 164, 165, 166, 167, 168, 169, 190, 187, 188, 189] (by decide +kernel) (by decide +kernel)
set_option maxRecDepth 20000 in
theorem gX2_hear_X2_hearLog : GoodIn wsX2_hear (wsV RX2 139 RX2 yX2_hearLog wsX2_hearLog) := goodIn_app (goodIn_of _ (by decide +kernel)) ggX2_hear_X2_hearLog
set_option maxRecDepth 20000 in
theorem ggX2_hear_X2_hearOk : GoodIn wsX2_hear wsX2_hearOk := goodIn_r _ [103, 2, 3, 104, 11, 12, 59, 60, 61, 62, 23, 21, 83, 84, 85, 105, 106, 107, 7, 108, 9, 86, 87, 88, 89, 20, 65, 66, 67, 68, 69, 109, 110, 111, 112, 51, 113, 114, 115, 116, 90, 91, 92, 93, 94, 95, 170, 171, 172, 173, 174, 175, 176, 177, 178, 179, 180, 181, 182, 183, 184, 185, 186, 162, 163, 164, 165, 166, 167, 168, 169, 190] (by decide +kernel) (by decide +kernel)
set_option maxRecDepth 20000 in
theorem gX2_hear_X2_hearOk : GoodIn wsX2_hear (wsV RX2 142 RX2 yX2_hearOk wsX2_hearOk) := goodIn_app (goodIn_of _ (by decide +kernel)) ggX2_hear_X2_hearOk
set_option maxRecDepth 20000 in
theorem ggX2_hear_X2_hearChange : GoodIn wsX2_hear wsX2_hearChange := goodIn_r _ [120, 2, 3, 11, 9, 121, 122, 51, 123, 124, 125, 7, 126, 127, 128, 129, 130, 69, 131, 132, 133, 134, 135, 20, 10, 13, 14, 15, 16, 17, 18, 19, 21, 22, 23, 24, 25, 26, 27, 28, 29, 30, 31, 32, 33, 34, 35, 36, 37, 38, 39, 40, 41, 42, 43, 44, 136, 137, 138, 139, 140, 141, 142, 143, 144, 145, 146, 74, 65, 66, 67, 68, 86, 87, 88, 89, 147, 148, 149, 150, 64, 59, 60, 61, 62, 63, 83, 84, 85, 104, 52, 53, 54, 151, 152, 153, 12, 90, 91, 92, 93, 94, 95, 70, 71, 72, 73, 154, 155, 156, 157, 170, 171, 172, 173, 174, 175, 176, 177, 178, 179, 180, 181, 182, 183, 184, 185, 186, 162, 163, 164, 165, 166, 167, 168, 169, 187, 188, 189, 190] (by decide +kernel) (by decide +kernel)
set_option maxRecDepth 20000 in
theorem gX2_hear_X2_hearChange : GoodIn wsX2_hear (wsV RX2 145 RX2 yX2_hearChange wsX2_hearChange) := goodIn_app (goodIn_of _ (by decide +kernel)) ggX2_hear_X2_hearChange
set_option maxRecDepth 20000 in
theorem ggX2_hear_X2_hearVote : GoodIn wsX2_hear wsX2_hearVote := goodIn_r _ [161, 3, 20, 2, 9, 131, 11, 65, 66, 67, 7, 68, 69, 123, 124, 125, 126, 127, 128, 129, 130, 121, 122, 132, 133, 134, 135, 10, 13, 14, 15, 16, 17, 18, 19, 21, 22, 23, 24, 25, 26, 27, 28, 29, 30, 31, 32, 33, 34, 35, 36, 37, 38, 39, 40, 41, 42, 43, 44, 147, 148, 149, 150, 51, 64, 59, 60, 61, 62, 63, 83, 84, 85, 104, 52, 53, 54, 151, 152, 153, 12, 90, 91, 92, 93, 94, 95, 70, 71, 72, 73, 74, 154, 155, 156, 157, 162, 163, 164, 165, 166, 167, 168, 169, 170, 171, 172, 173, 174, 175, 176, 177, 178, 179, 180, 181, 182, 183, 184, 185, 186, 187, 188, 189, 190] (by decide +kernel) (by decide +kernel)
set_option maxRecDepth 20000 in
theorem gX2_hear_X2_hearVote : GoodIn wsX2_hear (wsV RX2 148 RX2 yX2_hearVote wsX2_hearVote) := goodIn_app (goodIn_of _ (by decide +kernel)) ggX2_hear_X2_hearVote
theorem dX2_hear_0 : decode cX2_hear 0 = .ok (.aload_n 1, 1) := by decide +kernel
theorem dX2_hear_1 : decode cX2_hear 1 = .ok (.getfield 125, 3) := by decide +kernel
theorem dX2_hear_4 : decode cX2_hear 4 = .ok (.bipush 6, 2) := by decide +kernel
theorem dX2_hear_6 : decode cX2_hear 6 = .ok (.if_icmp .ne 9, 3) := by decide +kernel
theorem dX2_hear_9 : decode cX2_hear 9 = .ok (.aload_n 0, 1) := by decide +kernel
theorem dX2_hear_10 : decode cX2_hear 10 = .ok (.aload_n 1, 1) := by decide +kernel
theorem dX2_hear_11 : decode cX2_hear 11 = .ok (.invokevirtual 128, 3) := by decide +kernel
theorem dX2_hear_14 : decode cX2_hear 14 = .ok (.ireturn, 1) := by decide +kernel
theorem dX2_hear_15 : decode cX2_hear 15 = .ok (.aload_n 1, 1) := by decide +kernel
theorem dX2_hear_16 : decode cX2_hear 16 = .ok (.getfield 125, 3) := by decide +kernel
theorem dX2_hear_19 : decode cX2_hear 19 = .ok (.bipush 7, 2) := by decide +kernel
theorem dX2_hear_21 : decode cX2_hear 21 = .ok (.if_icmp .ne 9, 3) := by decide +kernel
theorem dX2_hear_24 : decode cX2_hear 24 = .ok (.aload_n 0, 1) := by decide +kernel
theorem dX2_hear_25 : decode cX2_hear 25 = .ok (.aload_n 1, 1) := by decide +kernel
theorem dX2_hear_26 : decode cX2_hear 26 = .ok (.invokevirtual 132, 3) := by decide +kernel
theorem dX2_hear_29 : decode cX2_hear 29 = .ok (.ireturn, 1) := by decide +kernel
theorem dX2_hear_30 : decode cX2_hear 30 = .ok (.aload_n 0, 1) := by decide +kernel
theorem dX2_hear_31 : decode cX2_hear 31 = .ok (.invokevirtual 135, 3) := by decide +kernel
theorem dX2_hear_34 : decode cX2_hear 34 = .ok (.ifCond .ne 14, 3) := by decide +kernel
theorem dX2_hear_37 : decode cX2_hear 37 = .ok (.aload_n 0, 1) := by decide +kernel
theorem dX2_hear_38 : decode cX2_hear 38 = .ok (.getfield 51, 3) := by decide +kernel
theorem dX2_hear_41 : decode cX2_hear 41 = .ok (.aload_n 1, 1) := by decide +kernel
theorem dX2_hear_42 : decode cX2_hear 42 = .ok (.getfield 138, 3) := by decide +kernel
theorem dX2_hear_45 : decode cX2_hear 45 = .ok (.if_icmp .le 5, 3) := by decide +kernel
theorem dX2_hear_48 : decode cX2_hear 48 = .ok (.iconst 0, 1) := by decide +kernel
theorem dX2_hear_49 : decode cX2_hear 49 = .ok (.ireturn, 1) := by decide +kernel
theorem dX2_hear_50 : decode cX2_hear 50 = .ok (.aload_n 1, 1) := by decide +kernel
theorem dX2_hear_51 : decode cX2_hear 51 = .ok (.getfield 125, 3) := by decide +kernel
theorem dX2_hear_54 : decode cX2_hear 54 = .ok (.tableswitch 58 1 5 #[34, 40, 46, 52, 34], 34) := by decide +kernel
theorem dX2_hear_88 : decode cX2_hear 88 = .ok (.aload_n 0, 1) := by decide +kernel
theorem dX2_hear_89 : decode cX2_hear 89 = .ok (.aload_n 1, 1) := by decide +kernel
theorem dX2_hear_90 : decode cX2_hear 90 = .ok (.invokevirtual 139, 3) := by decide +kernel
theorem dX2_hear_93 : decode cX2_hear 93 = .ok (.ireturn, 1) := by decide +kernel
theorem dX2_hear_94 : decode cX2_hear 94 = .ok (.aload_n 0, 1) := by decide +kernel
theorem dX2_hear_95 : decode cX2_hear 95 = .ok (.aload_n 1, 1) := by decide +kernel
theorem dX2_hear_96 : decode cX2_hear 96 = .ok (.invokevirtual 142, 3) := by decide +kernel
theorem dX2_hear_99 : decode cX2_hear 99 = .ok (.ireturn, 1) := by decide +kernel
theorem dX2_hear_100 : decode cX2_hear 100 = .ok (.aload_n 0, 1) := by decide +kernel
theorem dX2_hear_101 : decode cX2_hear 101 = .ok (.aload_n 1, 1) := by decide +kernel
theorem dX2_hear_102 : decode cX2_hear 102 = .ok (.invokevirtual 145, 3) := by decide +kernel
theorem dX2_hear_105 : decode cX2_hear 105 = .ok (.ireturn, 1) := by decide +kernel
theorem dX2_hear_106 : decode cX2_hear 106 = .ok (.aload_n 0, 1) := by decide +kernel
theorem dX2_hear_107 : decode cX2_hear 107 = .ok (.aload_n 1, 1) := by decide +kernel
theorem dX2_hear_108 : decode cX2_hear 108 = .ok (.invokevirtual 148, 3) := by decide +kernel
theorem dX2_hear_111 : decode cX2_hear 111 = .ok (.ireturn, 1) := by decide +kernel
theorem dX2_hear_112 : decode cX2_hear 112 = .ok (.iconst 0, 1) := by decide +kernel
theorem dX2_hear_113 : decode cX2_hear 113 = .ok (.ireturn, 1) := by decide +kernel
set_option maxRecDepth 20000 in
theorem ggX2_hearLog_X2_isFirst : GoodIn wsX2_hearLog wsX2_isFirst := goodIn_r _ [19, 1, 20, 21, 22, 23, 18, 24, 25, 71, 72, 73, 74, 75, 76, 77, 78, 79, 80, 81, 82, 83, 84, 85, 86, 87] (by decide +kernel) (by decide +kernel)
set_option maxRecDepth 20000 in
theorem gX2_hearLog_X2_isFirst : GoodIn wsX2_hearLog (wsV RX2 82 RX2 yX2_isFirst wsX2_isFirst) := goodIn_app (goodIn_of _ (by decide +kernel)) ggX2_hearLog_X2_isFirst
set_option maxRecDepth 20000 in
theorem ggX2_hearLog_X1_size : GoodIn wsX2_hearLog wsX1_size := goodIn_r _ [30, 31, 96] (by decide +kernel) (by decide +kernel)
set_option maxRecDepth 20000 in
theorem gX2_hearLog_X1_size : GoodIn wsX2_hearLog (wsV RX2 57 RX1 yX1_size wsX1_size) := goodIn_app (goodIn_of _ (by decide +kernel)) ggX2_hearLog_X1_size
set_option maxRecDepth 20000 in
theorem ggX2_hearLog_X2_settleIn : GoodIn wsX2_hearLog wsX2_settleIn := goodIn_r _ [35, 1, 36, 3, 71, 72, 73, 74, 75, 76, 77, 78, 79, 80, 81, 82, 83, 84, 85, 86, 87] (by decide +kernel) (by decide +kernel)
set_option maxRecDepth 20000 in
theorem gX2_hearLog_X2_settleIn : GoodIn wsX2_hearLog (wsV RX2 162 RX2 yX2_settleIn wsX2_settleIn) := goodIn_app (goodIn_of _ (by decide +kernel)) ggX2_hearLog_X2_settleIn
set_option maxRecDepth 20000 in
theorem ggX2_hearLog_X2_postOk : GoodIn wsX2_hearLog wsX2_postOk := goodIn_r _ [40, 41, 1, 5, 21, 22, 23, 18, 24, 25, 26, 27, 28, 29, 30, 31, 42, 43, 44, 45, 46, 47, 48, 20, 49, 6, 50, 51, 52, 53, 54, 55, 56, 57, 58, 59, 60, 61, 62, 63, 64, 65, 66, 67, 68, 69, 70, 71, 72, 73, 74, 75, 76, 77, 78, 79, 80, 81, 82, 83, 84, 85, 86, 87, 96, 88, 89, 90, 91, 92, 93, 94, 95, 97, 98, 99] (by decide +kernel) (by decide +kernel)
set_option maxRecDepth 20000 in
theorem gX2_hearLog_X2_postOk : GoodIn wsX2_hearLog (wsV RX2 113 RX2 yX2_postOk wsX2_postOk) := goodIn_app (goodIn_of _ (by decide +kernel)) ggX2_hearLog_X2_postOk
theorem dX2_hearLog_0 : decode cX2_hearLog 0 = .ok (.aload_n 0, 1) := by decide +kernel
theorem dX2_hearLog_1 : decode cX2_hearLog 1 = .ok (.getfield 51, 3) := by decide +kernel
theorem dX2_hearLog_4 : decode cX2_hearLog 4 = .ok (.aload_n 1, 1) := by decide +kernel
theorem dX2_hearLog_5 : decode cX2_hearLog 5 = .ok (.getfield 138, 3) := by decide +kernel
theorem dX2_hearLog_8 : decode cX2_hearLog 8 = .ok (.if_icmp .lt 11, 3) := by decide +kernel
theorem dX2_hearLog_11 : decode cX2_hearLog 11 = .ok (.aload_n 0, 1) := by decide +kernel
theorem dX2_hearLog_12 : decode cX2_hearLog 12 = .ok (.getfield 48, 3) := by decide +kernel
theorem dX2_hearLog_15 : decode cX2_hearLog 15 = .ok (.iconst 1, 1) := by decide +kernel
theorem dX2_hearLog_16 : decode cX2_hearLog 16 = .ok (.if_icmp .ne 7, 3) := by decide +kernel
theorem dX2_hearLog_19 : decode cX2_hearLog 19 = .ok (.iconst 1, 1) := by decide +kernel
theorem dX2_hearLog_20 : decode cX2_hearLog 20 = .ok (.goto 4, 3) := by decide +kernel
theorem dX2_hearLog_23 : decode cX2_hearLog 23 = .ok (.iconst 0, 1) := by decide +kernel
theorem dX2_hearLog_24 : decode cX2_hearLog 24 = .ok (.istore_n 2, 1) := by decide +kernel
theorem dX2_hearLog_25 : decode cX2_hearLog 25 = .ok (.iload_n 2, 1) := by decide +kernel
theorem dX2_hearLog_26 : decode cX2_hearLog 26 = .ok (.ifCond .ne 12, 3) := by decide +kernel
theorem dX2_hearLog_29 : decode cX2_hearLog 29 = .ok (.aload_n 0, 1) := by decide +kernel
theorem dX2_hearLog_30 : decode cX2_hearLog 30 = .ok (.invokevirtual 82, 3) := by decide +kernel
theorem dX2_hearLog_33 : decode cX2_hearLog 33 = .ok (.ifCond .eq 5, 3) := by decide +kernel
theorem dX2_hearLog_36 : decode cX2_hearLog 36 = .ok (.iconst 0, 1) := by decide +kernel
theorem dX2_hearLog_37 : decode cX2_hearLog 37 = .ok (.ireturn, 1) := by decide +kernel
theorem dX2_hearLog_38 : decode cX2_hearLog 38 = .ok (.iload_n 2, 1) := by decide +kernel
theorem dX2_hearLog_39 : decode cX2_hearLog 39 = .ok (.ifCond .ne 20, 3) := by decide +kernel
theorem dX2_hearLog_42 : decode cX2_hearLog 42 = .ok (.aload_n 1, 1) := by decide +kernel
theorem dX2_hearLog_43 : decode cX2_hearLog 43 = .ok (.getfield 151, 3) := by decide +kernel
theorem dX2_hearLog_46 : decode cX2_hearLog 46 = .ok (.invokevirtual 57, 3) := by decide +kernel
theorem dX2_hearLog_49 : decode cX2_hearLog 49 = .ok (.aload_n 0, 1) := by decide +kernel
theorem dX2_hearLog_50 : decode cX2_hearLog 50 = .ok (.getfield 33, 3) := by decide +kernel
theorem dX2_hearLog_53 : decode cX2_hearLog 53 = .ok (.invokevirtual 57, 3) := by decide +kernel
theorem dX2_hearLog_56 : decode cX2_hearLog 56 = .ok (.if_icmp .le 11, 3) := by decide +kernel
theorem dX2_hearLog_59 : decode cX2_hearLog 59 = .ok (.aload_n 0, 1) := by decide +kernel
theorem dX2_hearLog_60 : decode cX2_hearLog 60 = .ok (.aload_n 1, 1) := by decide +kernel
theorem dX2_hearLog_61 : decode cX2_hearLog 61 = .ok (.getfield 151, 3) := by decide +kernel
theorem dX2_hearLog_64 : decode cX2_hearLog 64 = .ok (.putfield 33, 3) := by decide +kernel
theorem dX2_hearLog_67 : decode cX2_hearLog 67 = .ok (.aload_n 0, 1) := by decide +kernel
theorem dX2_hearLog_68 : decode cX2_hearLog 68 = .ok (.aload_n 0, 1) := by decide +kernel
theorem dX2_hearLog_69 : decode cX2_hearLog 69 = .ok (.getfield 62, 3) := by decide +kernel
theorem dX2_hearLog_72 : decode cX2_hearLog 72 = .ok (.aload_n 1, 1) := by decide +kernel
theorem dX2_hearLog_73 : decode cX2_hearLog 73 = .ok (.getfield 152, 3) := by decide +kernel
theorem dX2_hearLog_76 : decode cX2_hearLog 76 = .ok (.invokestatic 153, 3) := by decide +kernel
theorem dX2_hearLog_79 : decode cX2_hearLog 79 = .ok (.aload_n 0, 1) := by decide +kernel
theorem dX2_hearLog_80 : decode cX2_hearLog 80 = .ok (.getfield 33, 3) := by decide +kernel
theorem dX2_hearLog_83 : decode cX2_hearLog 83 = .ok (.invokevirtual 57, 3) := by decide +kernel
theorem dX2_hearLog_86 : decode cX2_hearLog 86 = .ok (.invokestatic 159, 3) := by decide +kernel
theorem dX2_hearLog_89 : decode cX2_hearLog 89 = .ok (.putfield 62, 3) := by decide +kernel
theorem dX2_hearLog_92 : decode cX2_hearLog 92 = .ok (.aload_n 0, 1) := by decide +kernel
theorem dX2_hearLog_93 : decode cX2_hearLog 93 = .ok (.aload_n 1, 1) := by decide +kernel
theorem dX2_hearLog_94 : decode cX2_hearLog 94 = .ok (.getfield 138, 3) := by decide +kernel
theorem dX2_hearLog_97 : decode cX2_hearLog 97 = .ok (.invokevirtual 162, 3) := by decide +kernel
theorem dX2_hearLog_100 : decode cX2_hearLog 100 = .ok (.aload_n 0, 1) := by decide +kernel
theorem dX2_hearLog_101 : decode cX2_hearLog 101 = .ok (.invokevirtual 113, 3) := by decide +kernel
theorem dX2_hearLog_104 : decode cX2_hearLog 104 = .ok (.iconst 1, 1) := by decide +kernel
theorem dX2_hearLog_105 : decode cX2_hearLog 105 = .ok (.ireturn, 1) := by decide +kernel
set_option maxRecDepth 20000 in
theorem ggX2_hearOk_X2_leads : GoodIn wsX2_hearOk wsX2_leads := goodIn_r _ [19, 20, 21, 22, 23, 18, 24, 1, 25, 26, 27, 28, 29, 30, 46, 47, 48, 49, 50, 51, 52, 53, 54, 55, 56, 57, 58, 59, 60, 61, 62] (by decide +kernel) (by decide +kernel)
set_option maxRecDepth 20000 in
theorem gX2_hearOk_X2_leads : GoodIn wsX2_hearOk (wsV RX2 166 RX2 yX2_leads wsX2_leads) := goodIn_app (goodIn_of _ (by decide +kernel)) ggX2_hearOk_X2_leads
set_option maxRecDepth 20000 in
theorem ggX2_hearOk_X2_heldByEnough : GoodIn wsX2_hearOk wsX2_heldByEnough := goodIn_r _ [34, 3, 35, 36, 37, 38, 18, 39, 46, 47, 48, 49, 50, 51, 52, 53, 54, 55, 56, 57, 58, 59, 60, 61, 62] (by decide +kernel) (by decide +kernel)
set_option maxRecDepth 20000 in
theorem gX2_hearOk_X2_heldByEnough : GoodIn wsX2_hearOk (wsV RX2 175 RX2 yX2_heldByEnough wsX2_heldByEnough) := goodIn_app (goodIn_of _ (by decide +kernel)) ggX2_hearOk_X2_heldByEnough
set_option maxRecDepth 20000 in
theorem ggX2_hearOk_X1_size : GoodIn wsX2_hearOk wsX1_size := goodIn_r _ [44, 45, 71] (by decide +kernel) (by decide +kernel)
set_option maxRecDepth 20000 in
theorem gX2_hearOk_X1_size : GoodIn wsX2_hearOk (wsV RX2 57 RX1 yX1_size wsX1_size) := goodIn_app (goodIn_of _ (by decide +kernel)) ggX2_hearOk_X1_size
theorem dX2_hearOk_0 : decode cX2_hearOk 0 = .ok (.aload_n 0, 1) := by decide +kernel
theorem dX2_hearOk_1 : decode cX2_hearOk 1 = .ok (.invokevirtual 166, 3) := by decide +kernel
theorem dX2_hearOk_4 : decode cX2_hearOk 4 = .ok (.ifCond .eq 14, 3) := by decide +kernel
theorem dX2_hearOk_7 : decode cX2_hearOk 7 = .ok (.aload_n 0, 1) := by decide +kernel
theorem dX2_hearOk_8 : decode cX2_hearOk 8 = .ok (.getfield 51, 3) := by decide +kernel
theorem dX2_hearOk_11 : decode cX2_hearOk 11 = .ok (.aload_n 1, 1) := by decide +kernel
theorem dX2_hearOk_12 : decode cX2_hearOk 12 = .ok (.getfield 138, 3) := by decide +kernel
theorem dX2_hearOk_15 : decode cX2_hearOk 15 = .ok (.if_icmp .eq 5, 3) := by decide +kernel
theorem dX2_hearOk_18 : decode cX2_hearOk 18 = .ok (.iconst 0, 1) := by decide +kernel
theorem dX2_hearOk_19 : decode cX2_hearOk 19 = .ok (.ireturn, 1) := by decide +kernel
theorem dX2_hearOk_20 : decode cX2_hearOk 20 = .ok (.aload_n 0, 1) := by decide +kernel
theorem dX2_hearOk_21 : decode cX2_hearOk 21 = .ok (.getfield 45, 3) := by decide +kernel
theorem dX2_hearOk_24 : decode cX2_hearOk 24 = .ok (.aload_n 1, 1) := by decide +kernel
theorem dX2_hearOk_25 : decode cX2_hearOk 25 = .ok (.getfield 169, 3) := by decide +kernel
theorem dX2_hearOk_28 : decode cX2_hearOk 28 = .ok (.aload_n 0, 1) := by decide +kernel
theorem dX2_hearOk_29 : decode cX2_hearOk 29 = .ok (.getfield 45, 3) := by decide +kernel
theorem dX2_hearOk_32 : decode cX2_hearOk 32 = .ok (.aload_n 1, 1) := by decide +kernel
theorem dX2_hearOk_33 : decode cX2_hearOk 33 = .ok (.getfield 169, 3) := by decide +kernel
theorem dX2_hearOk_36 : decode cX2_hearOk 36 = .ok (.iaload, 1) := by decide +kernel
theorem dX2_hearOk_37 : decode cX2_hearOk 37 = .ok (.aload_n 1, 1) := by decide +kernel
theorem dX2_hearOk_38 : decode cX2_hearOk 38 = .ok (.getfield 172, 3) := by decide +kernel
theorem dX2_hearOk_41 : decode cX2_hearOk 41 = .ok (.invokestatic 153, 3) := by decide +kernel
theorem dX2_hearOk_44 : decode cX2_hearOk 44 = .ok (.iastore, 1) := by decide +kernel
theorem dX2_hearOk_45 : decode cX2_hearOk 45 = .ok (.aload_n 0, 1) := by decide +kernel
theorem dX2_hearOk_46 : decode cX2_hearOk 46 = .ok (.aload_n 0, 1) := by decide +kernel
theorem dX2_hearOk_47 : decode cX2_hearOk 47 = .ok (.getfield 62, 3) := by decide +kernel
theorem dX2_hearOk_50 : decode cX2_hearOk 50 = .ok (.aload_n 0, 1) := by decide +kernel
theorem dX2_hearOk_51 : decode cX2_hearOk 51 = .ok (.invokevirtual 175, 3) := by decide +kernel
theorem dX2_hearOk_54 : decode cX2_hearOk 54 = .ok (.aload_n 0, 1) := by decide +kernel
theorem dX2_hearOk_55 : decode cX2_hearOk 55 = .ok (.getfield 33, 3) := by decide +kernel
theorem dX2_hearOk_58 : decode cX2_hearOk 58 = .ok (.invokevirtual 57, 3) := by decide +kernel
theorem dX2_hearOk_61 : decode cX2_hearOk 61 = .ok (.invokestatic 159, 3) := by decide +kernel
theorem dX2_hearOk_64 : decode cX2_hearOk 64 = .ok (.invokestatic 153, 3) := by decide +kernel
theorem dX2_hearOk_67 : decode cX2_hearOk 67 = .ok (.putfield 62, 3) := by decide +kernel
theorem dX2_hearOk_70 : decode cX2_hearOk 70 = .ok (.iconst 1, 1) := by decide +kernel
theorem dX2_hearOk_71 : decode cX2_hearOk 71 = .ok (.ireturn, 1) := by decide +kernel
set_option maxRecDepth 20000 in
theorem ggX2_hearChange_X2_changeTo : GoodIn wsX2_hearChange wsX2_changeTo := goodIn_r _ [12, 1, 4, 13, 14, 15, 11, 16, 5, 6, 17, 18, 19, 20, 21, 22, 23, 24, 25, 26, 27, 28, 29, 30, 31, 32, 33, 34, 35, 36, 37, 38, 39, 40, 41, 42, 43, 44, 45, 46, 47, 48, 49, 50, 51, 52, 53, 54, 55, 111, 112, 113, 114, 115, 116, 117, 118, 119, 120, 121, 122, 123, 124, 125, 126, 127, 128, 129, 130, 131, 132, 133, 134, 135, 136, 137, 138] (by decide +kernel) (by decide +kernel)
set_option maxRecDepth 20000 in
theorem gX2_hearChange_X2_changeTo : GoodIn wsX2_hearChange (wsV RX2 178 RX2 yX2_changeTo wsX2_changeTo) := goodIn_app (goodIn_of _ (by decide +kernel)) ggX2_hearChange_X2_changeTo
set_option maxRecDepth 20000 in
theorem ggX2_hearChange_J6_bitCount_0f7a4 : GoodIn wsX2_hearChange wsJ6_bitCount_0f7a4 := goodIn_r _ [59, 60, 61, 62] (by decide +kernel) (by decide +kernel)
set_option maxRecDepth 20000 in
theorem gX2_hearChange_J6_bitCount_0f7a4 : GoodIn wsX2_hearChange (va_wsS RX2 68 yJ6_bitCount_0f7a4 wsJ6_bitCount_0f7a4) := goodIn_app (goodIn_of _ (by decide +kernel)) ggX2_hearChange_J6_bitCount_0f7a4
set_option maxRecDepth 20000 in
theorem ggX2_hearChange_X2_castVote : GoodIn wsX2_hearChange wsX2_castVote := goodIn_r _ [66, 6, 1, 67, 18, 23, 24, 68, 69, 70, 11, 71, 17, 25, 26, 27, 28, 29, 30, 31, 32, 33, 34, 35, 36, 37, 38, 39, 40, 41, 42, 43, 44, 45, 46, 47, 72, 73, 74, 75, 48, 49, 50, 51, 52, 53, 54, 55, 111, 112, 113, 114, 115, 116, 117, 118, 119, 120, 121, 122, 123, 124, 125, 126, 127, 128, 129, 130, 131, 132, 133, 134, 135, 136, 137, 138] (by decide +kernel) (by decide +kernel)
set_option maxRecDepth 20000 in
theorem gX2_hearChange_X2_castVote : GoodIn wsX2_hearChange (wsV RX2 116 RX2 yX2_castVote wsX2_castVote) := goodIn_app (goodIn_of _ (by decide +kernel)) ggX2_hearChange_X2_castVote
set_option maxRecDepth 20000 in
theorem ggX2_hearChange_X2_leadIfElected : GoodIn wsX2_hearChange wsX2_leadIfElected := goodIn_r _ [79, 18, 23, 7, 80, 81, 82, 83, 84, 85, 32, 86, 87, 88, 34, 1, 89, 90, 91, 11, 92, 93, 94, 95, 96, 97, 98, 99, 100, 101, 102, 103, 104, 105, 106, 67, 4, 107, 108, 109, 110, 19, 20, 21, 22, 17, 24, 25, 26, 27, 28, 29, 30, 31, 33, 35, 36, 37, 38, 39, 40, 41, 42, 43, 44, 45, 46, 47, 48, 49, 50, 51, 52, 53, 54, 55, 111, 112, 113, 114, 115, 116, 117, 118, 119, 120, 121, 122, 123, 124, 125, 126, 127, 128, 129, 130, 131, 132, 133, 134, 135, 139, 136, 137, 138] (by decide +kernel) (by decide +kernel)
set_option maxRecDepth 20000 in
theorem gX2_hearChange_X2_leadIfElected : GoodIn wsX2_hearChange (wsV RX2 181 RX2 yX2_leadIfElected wsX2_leadIfElected) := goodIn_app (goodIn_of _ (by decide +kernel)) ggX2_hearChange_X2_leadIfElected
theorem dX2_hearChange_0 : decode cX2_hearChange 0 = .ok (.aload_n 0, 1) := by decide +kernel
theorem dX2_hearChange_1 : decode cX2_hearChange 1 = .ok (.getfield 51, 3) := by decide +kernel
theorem dX2_hearChange_4 : decode cX2_hearChange 4 = .ok (.aload_n 1, 1) := by decide +kernel
theorem dX2_hearChange_5 : decode cX2_hearChange 5 = .ok (.getfield 138, 3) := by decide +kernel
theorem dX2_hearChange_8 : decode cX2_hearChange 8 = .ok (.if_icmp .ge 11, 3) := by decide +kernel
theorem dX2_hearChange_11 : decode cX2_hearChange 11 = .ok (.aload_n 0, 1) := by decide +kernel
theorem dX2_hearChange_12 : decode cX2_hearChange 12 = .ok (.aload_n 1, 1) := by decide +kernel
theorem dX2_hearChange_13 : decode cX2_hearChange 13 = .ok (.getfield 138, 3) := by decide +kernel
theorem dX2_hearChange_16 : decode cX2_hearChange 16 = .ok (.invokevirtual 178, 3) := by decide +kernel
theorem dX2_hearChange_19 : decode cX2_hearChange 19 = .ok (.iconst 1, 1) := by decide +kernel
theorem dX2_hearChange_20 : decode cX2_hearChange 20 = .ok (.aload_n 1, 1) := by decide +kernel
theorem dX2_hearChange_21 : decode cX2_hearChange 21 = .ok (.getfield 169, 3) := by decide +kernel
theorem dX2_hearChange_24 : decode cX2_hearChange 24 = .ok (.ishl, 1) := by decide +kernel
theorem dX2_hearChange_25 : decode cX2_hearChange 25 = .ok (.istore_n 2, 1) := by decide +kernel
theorem dX2_hearChange_26 : decode cX2_hearChange 26 = .ok (.aload_n 0, 1) := by decide +kernel
theorem dX2_hearChange_27 : decode cX2_hearChange 27 = .ok (.getfield 48, 3) := by decide +kernel
theorem dX2_hearChange_30 : decode cX2_hearChange 30 = .ok (.iconst 1, 1) := by decide +kernel
theorem dX2_hearChange_31 : decode cX2_hearChange 31 = .ok (.if_icmp .ne 12, 3) := by decide +kernel
theorem dX2_hearChange_34 : decode cX2_hearChange 34 = .ok (.aload_n 0, 1) := by decide +kernel
theorem dX2_hearChange_35 : decode cX2_hearChange 35 = .ok (.getfield 65, 3) := by decide +kernel
theorem dX2_hearChange_38 : decode cX2_hearChange 38 = .ok (.iload_n 2, 1) := by decide +kernel
theorem dX2_hearChange_39 : decode cX2_hearChange 39 = .ok (.iand, 1) := by decide +kernel
theorem dX2_hearChange_40 : decode cX2_hearChange 40 = .ok (.ifCond .eq 5, 3) := by decide +kernel
theorem dX2_hearChange_43 : decode cX2_hearChange 43 = .ok (.iconst 0, 1) := by decide +kernel
theorem dX2_hearChange_44 : decode cX2_hearChange 44 = .ok (.ireturn, 1) := by decide +kernel
theorem dX2_hearChange_45 : decode cX2_hearChange 45 = .ok (.aload_n 0, 1) := by decide +kernel
theorem dX2_hearChange_46 : decode cX2_hearChange 46 = .ok (.dup, 1) := by decide +kernel
theorem dX2_hearChange_47 : decode cX2_hearChange 47 = .ok (.getfield 65, 3) := by decide +kernel
theorem dX2_hearChange_50 : decode cX2_hearChange 50 = .ok (.iload_n 2, 1) := by decide +kernel
theorem dX2_hearChange_51 : decode cX2_hearChange 51 = .ok (.ior, 1) := by decide +kernel
theorem dX2_hearChange_52 : decode cX2_hearChange 52 = .ok (.putfield 65, 3) := by decide +kernel
theorem dX2_hearChange_55 : decode cX2_hearChange 55 = .ok (.aload_n 0, 1) := by decide +kernel
theorem dX2_hearChange_56 : decode cX2_hearChange 56 = .ok (.getfield 78, 3) := by decide +kernel
theorem dX2_hearChange_59 : decode cX2_hearChange 59 = .ok (.ifCond .ne 25, 3) := by decide +kernel
theorem dX2_hearChange_62 : decode cX2_hearChange 62 = .ok (.aload_n 0, 1) := by decide +kernel
theorem dX2_hearChange_63 : decode cX2_hearChange 63 = .ok (.getfield 65, 3) := by decide +kernel
theorem dX2_hearChange_66 : decode cX2_hearChange 66 = .ok (.invokestatic 68, 3) := by decide +kernel
theorem dX2_hearChange_69 : decode cX2_hearChange 69 = .ok (.aload_n 0, 1) := by decide +kernel
theorem dX2_hearChange_70 : decode cX2_hearChange 70 = .ok (.getfield 22, 3) := by decide +kernel
theorem dX2_hearChange_73 : decode cX2_hearChange 73 = .ok (.if_icmp .lt 11, 3) := by decide +kernel
theorem dX2_hearChange_76 : decode cX2_hearChange 76 = .ok (.aload_n 0, 1) := by decide +kernel
theorem dX2_hearChange_77 : decode cX2_hearChange 77 = .ok (.invokevirtual 116, 3) := by decide +kernel
theorem dX2_hearChange_80 : decode cX2_hearChange 80 = .ok (.aload_n 0, 1) := by decide +kernel
theorem dX2_hearChange_81 : decode cX2_hearChange 81 = .ok (.invokevirtual 181, 3) := by decide +kernel
theorem dX2_hearChange_84 : decode cX2_hearChange 84 = .ok (.iconst 1, 1) := by decide +kernel
theorem dX2_hearChange_85 : decode cX2_hearChange 85 = .ok (.ireturn, 1) := by decide +kernel
set_option maxRecDepth 20000 in
theorem ggX2_hearVote_X2_firstOf : GoodIn wsX2_hearVote wsX2_firstOf := goodIn_r _ [11, 12, 104, 105, 106, 107, 108, 109, 110, 111, 112, 113, 114, 115, 116, 117, 118, 119, 120] (by decide +kernel) (by decide +kernel)
set_option maxRecDepth 20000 in
theorem gX2_hearVote_X2_firstOf : GoodIn wsX2_hearVote (wsV RX2 184 RX2 yX2_firstOf wsX2_firstOf) := goodIn_app (goodIn_of _ (by decide +kernel)) ggX2_hearVote_X2_firstOf
set_option maxRecDepth 20000 in
theorem ggX2_hearVote_X2_changeTo : GoodIn wsX2_hearVote wsX2_changeTo := goodIn_r _ [16, 3, 4, 17, 18, 19, 10, 20, 21, 22, 12, 5, 23, 24, 25, 26, 2, 27, 28, 29, 30, 31, 32, 33, 34, 35, 36, 37, 38, 39, 40, 41, 42, 43, 44, 45, 46, 47, 48, 49, 50, 51, 52, 53, 54, 55, 56, 57, 58, 104, 105, 106, 107, 108, 109, 110, 111, 112, 113, 114, 115, 116, 117, 118, 119, 120, 96, 97, 98, 99, 100, 101, 102, 103, 121, 122, 123] (by decide +kernel) (by decide +kernel)
set_option maxRecDepth 20000 in
theorem gX2_hearVote_X2_changeTo : GoodIn wsX2_hearVote (wsV RX2 178 RX2 yX2_changeTo wsX2_changeTo) := goodIn_app (goodIn_of _ (by decide +kernel)) ggX2_hearVote_X2_changeTo
set_option maxRecDepth 20000 in
theorem ggX2_hearVote_X2_leadIfElected : GoodIn wsX2_hearVote wsX2_leadIfElected := goodIn_r _ [62, 5, 2, 63, 64, 65, 66, 67, 68, 69, 35, 70, 71, 72, 37, 3, 73, 74, 75, 10, 76, 77, 78, 79, 80, 81, 82, 83, 84, 85, 86, 87, 88, 89, 90, 91, 4, 92, 93, 94, 95, 23, 24, 25, 26, 12, 27, 28, 29, 30, 31, 32, 33, 34, 36, 38, 39, 40, 41, 42, 43, 44, 45, 46, 47, 48, 49, 50, 51, 52, 53, 54, 55, 56, 57, 58, 104, 105, 106, 107, 108, 109, 110, 111, 112, 113, 114, 115, 116, 117, 118, 119, 120, 96, 97, 98, 99, 100, 101, 102, 103, 124, 121, 122, 123] (by decide +kernel) (by decide +kernel)
set_option maxRecDepth 20000 in
theorem gX2_hearVote_X2_leadIfElected : GoodIn wsX2_hearVote (wsV RX2 181 RX2 yX2_leadIfElected wsX2_leadIfElected) := goodIn_app (goodIn_of _ (by decide +kernel)) ggX2_hearVote_X2_leadIfElected
theorem dX2_hearVote_0 : decode cX2_hearVote 0 = .ok (.aload_n 0, 1) := by decide +kernel
theorem dX2_hearVote_1 : decode cX2_hearVote 1 = .ok (.aload_n 1, 1) := by decide +kernel
theorem dX2_hearVote_2 : decode cX2_hearVote 2 = .ok (.getfield 138, 3) := by decide +kernel
theorem dX2_hearVote_5 : decode cX2_hearVote 5 = .ok (.invokevirtual 184, 3) := by decide +kernel
theorem dX2_hearVote_8 : decode cX2_hearVote 8 = .ok (.aload_n 0, 1) := by decide +kernel
theorem dX2_hearVote_9 : decode cX2_hearVote 9 = .ok (.getfield 15, 3) := by decide +kernel
theorem dX2_hearVote_12 : decode cX2_hearVote 12 = .ok (.if_icmp .eq 5, 3) := by decide +kernel
theorem dX2_hearVote_15 : decode cX2_hearVote 15 = .ok (.iconst 0, 1) := by decide +kernel
theorem dX2_hearVote_16 : decode cX2_hearVote 16 = .ok (.ireturn, 1) := by decide +kernel
theorem dX2_hearVote_17 : decode cX2_hearVote 17 = .ok (.aload_n 0, 1) := by decide +kernel
theorem dX2_hearVote_18 : decode cX2_hearVote 18 = .ok (.getfield 51, 3) := by decide +kernel
theorem dX2_hearVote_21 : decode cX2_hearVote 21 = .ok (.aload_n 1, 1) := by decide +kernel
theorem dX2_hearVote_22 : decode cX2_hearVote 22 = .ok (.getfield 138, 3) := by decide +kernel
theorem dX2_hearVote_25 : decode cX2_hearVote 25 = .ok (.if_icmp .ge 11, 3) := by decide +kernel
theorem dX2_hearVote_28 : decode cX2_hearVote 28 = .ok (.aload_n 0, 1) := by decide +kernel
theorem dX2_hearVote_29 : decode cX2_hearVote 29 = .ok (.aload_n 1, 1) := by decide +kernel
theorem dX2_hearVote_30 : decode cX2_hearVote 30 = .ok (.getfield 138, 3) := by decide +kernel
theorem dX2_hearVote_33 : decode cX2_hearVote 33 = .ok (.invokevirtual 178, 3) := by decide +kernel
theorem dX2_hearVote_36 : decode cX2_hearVote 36 = .ok (.aload_n 0, 1) := by decide +kernel
theorem dX2_hearVote_37 : decode cX2_hearVote 37 = .ok (.getfield 48, 3) := by decide +kernel
theorem dX2_hearVote_40 : decode cX2_hearVote 40 = .ok (.iconst 1, 1) := by decide +kernel
theorem dX2_hearVote_41 : decode cX2_hearVote 41 = .ok (.if_icmp .ne 15, 3) := by decide +kernel
theorem dX2_hearVote_44 : decode cX2_hearVote 44 = .ok (.aload_n 0, 1) := by decide +kernel
theorem dX2_hearVote_45 : decode cX2_hearVote 45 = .ok (.getfield 38, 3) := by decide +kernel
theorem dX2_hearVote_48 : decode cX2_hearVote 48 = .ok (.aload_n 1, 1) := by decide +kernel
theorem dX2_hearVote_49 : decode cX2_hearVote 49 = .ok (.getfield 169, 3) := by decide +kernel
theorem dX2_hearVote_52 : decode cX2_hearVote 52 = .ok (.aaload, 1) := by decide +kernel
theorem dX2_hearVote_53 : decode cX2_hearVote 53 = .ok (.ifnull 5, 3) := by decide +kernel
theorem dX2_hearVote_56 : decode cX2_hearVote 56 = .ok (.iconst 0, 1) := by decide +kernel
theorem dX2_hearVote_57 : decode cX2_hearVote 57 = .ok (.ireturn, 1) := by decide +kernel
theorem dX2_hearVote_58 : decode cX2_hearVote 58 = .ok (.aload_n 0, 1) := by decide +kernel
theorem dX2_hearVote_59 : decode cX2_hearVote 59 = .ok (.getfield 38, 3) := by decide +kernel
theorem dX2_hearVote_62 : decode cX2_hearVote 62 = .ok (.aload_n 1, 1) := by decide +kernel
theorem dX2_hearVote_63 : decode cX2_hearVote 63 = .ok (.getfield 169, 3) := by decide +kernel
theorem dX2_hearVote_66 : decode cX2_hearVote 66 = .ok (.aload_n 1, 1) := by decide +kernel
theorem dX2_hearVote_67 : decode cX2_hearVote 67 = .ok (.aastore, 1) := by decide +kernel
theorem dX2_hearVote_68 : decode cX2_hearVote 68 = .ok (.aload_n 0, 1) := by decide +kernel
theorem dX2_hearVote_69 : decode cX2_hearVote 69 = .ok (.invokevirtual 181, 3) := by decide +kernel
theorem dX2_hearVote_72 : decode cX2_hearVote 72 = .ok (.iconst 1, 1) := by decide +kernel
theorem dX2_hearVote_73 : decode cX2_hearVote 73 = .ok (.ireturn, 1) := by decide +kernel
set_option maxRecDepth 20000 in
theorem ggX2_hearAsk_X2_write : GoodIn wsX2_hearAsk wsX2_write := goodIn_r _ [9, 10, 11, 12, 13, 14, 15, 16, 17, 18, 19, 20, 21, 22, 23, 24, 25, 26, 27, 28, 29, 30, 56, 57, 58, 59, 60, 61, 62, 63, 39, 40, 41, 42, 43, 44, 45, 46, 47, 48, 49, 50, 51, 52, 53, 54, 55] (by decide +kernel) (by decide +kernel)
set_option maxRecDepth 20000 in
theorem gX2_hearAsk_X2_write : GoodIn wsX2_hearAsk (wsV RX2 96 RX2 yX2_write wsX2_write) := goodIn_app (goodIn_of _ (by decide +kernel)) ggX2_hearAsk_X2_write
set_option maxRecDepth 20000 in
theorem ggX2_hearAsk_X3_add : GoodIn wsX2_hearAsk wsX3_add := goodIn_r _ [35, 36, 37, 38, 64, 65, 66] (by decide +kernel) (by decide +kernel)
set_option maxRecDepth 20000 in
theorem gX2_hearAsk_X3_add : GoodIn wsX2_hearAsk (wsV RX2 100 RX3 yX3_add wsX3_add) := goodIn_app (goodIn_of _ (by decide +kernel)) ggX2_hearAsk_X3_add
theorem dX2_hearAsk_0 : decode cX2_hearAsk 0 = .ok (.aload_n 0, 1) := by decide +kernel
theorem dX2_hearAsk_1 : decode cX2_hearAsk 1 = .ok (.getfield 48, 3) := by decide +kernel
theorem dX2_hearAsk_4 : decode cX2_hearAsk 4 = .ok (.ifCond .eq 5, 3) := by decide +kernel
theorem dX2_hearAsk_7 : decode cX2_hearAsk 7 = .ok (.iconst 0, 1) := by decide +kernel
theorem dX2_hearAsk_8 : decode cX2_hearAsk 8 = .ok (.ireturn, 1) := by decide +kernel
theorem dX2_hearAsk_9 : decode cX2_hearAsk 9 = .ok (.aload_n 0, 1) := by decide +kernel
theorem dX2_hearAsk_10 : decode cX2_hearAsk 10 = .ok (.getfield 25, 3) := by decide +kernel
theorem dX2_hearAsk_13 : decode cX2_hearAsk 13 = .ok (.aload_n 0, 1) := by decide +kernel
theorem dX2_hearAsk_14 : decode cX2_hearAsk 14 = .ok (.aload_n 1, 1) := by decide +kernel
theorem dX2_hearAsk_15 : decode cX2_hearAsk 15 = .ok (.getfield 169, 3) := by decide +kernel
theorem dX2_hearAsk_18 : decode cX2_hearAsk 18 = .ok (.bipush 7, 2) := by decide +kernel
theorem dX2_hearAsk_20 : decode cX2_hearAsk 20 = .ok (.aload_n 1, 1) := by decide +kernel
theorem dX2_hearAsk_21 : decode cX2_hearAsk 21 = .ok (.getfield 172, 3) := by decide +kernel
theorem dX2_hearAsk_24 : decode cX2_hearAsk 24 = .ok (.invokevirtual 96, 3) := by decide +kernel
theorem dX2_hearAsk_27 : decode cX2_hearAsk 27 = .ok (.invokevirtual 100, 3) := by decide +kernel
theorem dX2_hearAsk_30 : decode cX2_hearAsk 30 = .ok (.iconst 1, 1) := by decide +kernel
theorem dX2_hearAsk_31 : decode cX2_hearAsk 31 = .ok (.ireturn, 1) := by decide +kernel
set_option maxRecDepth 20000 in
theorem ggX2_hearTell_X2_countLetters : GoodIn wsX2_hearTell wsX2_countLetters := goodIn_r _ [10] (by decide +kernel) (by decide +kernel)
set_option maxRecDepth 20000 in
theorem gX2_hearTell_X2_countLetters : GoodIn wsX2_hearTell (va_wsS RX2 74 yX2_countLetters wsX2_countLetters) := goodIn_app (goodIn_of _ (by decide +kernel)) ggX2_hearTell_X2_countLetters
set_option maxRecDepth 20000 in
theorem ggX2_hearTell_X2_believeFirst : GoodIn wsX2_hearTell wsX2_believeFirst := goodIn_r _ [14, 4, 15, 16, 17, 18, 19, 20, 21, 22, 23, 24, 25, 26, 9, 27, 28, 29, 30, 31, 32, 33, 34, 1, 35, 36, 37, 38, 39, 40, 41, 42, 43, 44, 45, 46, 47, 48, 49, 50, 51, 52, 53, 54, 55, 56, 57, 58, 59] (by decide +kernel) (by decide +kernel)
set_option maxRecDepth 20000 in
theorem gX2_hearTell_X2_believeFirst : GoodIn wsX2_hearTell (wsV RX2 187 RX2 yX2_believeFirst wsX2_believeFirst) := goodIn_app (goodIn_of _ (by decide +kernel)) ggX2_hearTell_X2_believeFirst
theorem dX2_hearTell_0 : decode cX2_hearTell 0 = .ok (.aload_n 0, 1) := by decide +kernel
theorem dX2_hearTell_1 : decode cX2_hearTell 1 = .ok (.getfield 48, 3) := by decide +kernel
theorem dX2_hearTell_4 : decode cX2_hearTell 4 = .ok (.iconst 2, 1) := by decide +kernel
theorem dX2_hearTell_5 : decode cX2_hearTell 5 = .ok (.if_icmp .ne 14, 3) := by decide +kernel
theorem dX2_hearTell_8 : decode cX2_hearTell 8 = .ok (.aload_n 0, 1) := by decide +kernel
theorem dX2_hearTell_9 : decode cX2_hearTell 9 = .ok (.getfield 119, 3) := by decide +kernel
theorem dX2_hearTell_12 : decode cX2_hearTell 12 = .ok (.aload_n 1, 1) := by decide +kernel
theorem dX2_hearTell_13 : decode cX2_hearTell 13 = .ok (.getfield 172, 3) := by decide +kernel
theorem dX2_hearTell_16 : decode cX2_hearTell 16 = .ok (.if_icmp .eq 5, 3) := by decide +kernel
theorem dX2_hearTell_19 : decode cX2_hearTell 19 = .ok (.iconst 0, 1) := by decide +kernel
theorem dX2_hearTell_20 : decode cX2_hearTell 20 = .ok (.ireturn, 1) := by decide +kernel
theorem dX2_hearTell_21 : decode cX2_hearTell 21 = .ok (.aload_n 0, 1) := by decide +kernel
theorem dX2_hearTell_22 : decode cX2_hearTell 22 = .ok (.getfield 42, 3) := by decide +kernel
theorem dX2_hearTell_25 : decode cX2_hearTell 25 = .ok (.aload_n 1, 1) := by decide +kernel
theorem dX2_hearTell_26 : decode cX2_hearTell 26 = .ok (.getfield 169, 3) := by decide +kernel
theorem dX2_hearTell_29 : decode cX2_hearTell 29 = .ok (.aload_n 1, 1) := by decide +kernel
theorem dX2_hearTell_30 : decode cX2_hearTell 30 = .ok (.aastore, 1) := by decide +kernel
theorem dX2_hearTell_31 : decode cX2_hearTell 31 = .ok (.aload_n 0, 1) := by decide +kernel
theorem dX2_hearTell_32 : decode cX2_hearTell 32 = .ok (.getfield 42, 3) := by decide +kernel
theorem dX2_hearTell_35 : decode cX2_hearTell 35 = .ok (.invokestatic 74, 3) := by decide +kernel
theorem dX2_hearTell_38 : decode cX2_hearTell 38 = .ok (.aload_n 0, 1) := by decide +kernel
theorem dX2_hearTell_39 : decode cX2_hearTell 39 = .ok (.getfield 22, 3) := by decide +kernel
theorem dX2_hearTell_42 : decode cX2_hearTell 42 = .ok (.if_icmp .le 7, 3) := by decide +kernel
theorem dX2_hearTell_45 : decode cX2_hearTell 45 = .ok (.aload_n 0, 1) := by decide +kernel
theorem dX2_hearTell_46 : decode cX2_hearTell 46 = .ok (.invokevirtual 187, 3) := by decide +kernel
theorem dX2_hearTell_49 : decode cX2_hearTell 49 = .ok (.iconst 1, 1) := by decide +kernel
theorem dX2_hearTell_50 : decode cX2_hearTell 50 = .ok (.ireturn, 1) := by decide +kernel
set_option maxRecDepth 20000 in
theorem ggX2_believeFirst_X2_firstOf : GoodIn wsX2_believeFirst wsX2_firstOf := goodIn_r _ [15, 16, 24, 25, 26, 27, 28, 29, 30, 31, 32, 33, 34, 35, 36, 37, 38, 39, 40] (by decide +kernel) (by decide +kernel)
set_option maxRecDepth 20000 in
theorem gX2_believeFirst_X2_firstOf : GoodIn wsX2_believeFirst (wsV RX2 184 RX2 yX2_firstOf wsX2_firstOf) := goodIn_app (goodIn_of _ (by decide +kernel)) ggX2_believeFirst_X2_firstOf
set_option maxRecDepth 20000 in
theorem ggX2_believeFirst_X2_settleIn : GoodIn wsX2_believeFirst wsX2_settleIn := goodIn_r _ [20, 21, 22, 23, 24, 25, 26, 27, 28, 29, 30, 31, 32, 33, 34, 35, 36, 37, 38, 39, 40] (by decide +kernel) (by decide +kernel)
set_option maxRecDepth 20000 in
theorem gX2_believeFirst_X2_settleIn : GoodIn wsX2_believeFirst (wsV RX2 162 RX2 yX2_settleIn wsX2_settleIn) := goodIn_app (goodIn_of _ (by decide +kernel)) ggX2_believeFirst_X2_settleIn
theorem dX2_believeFirst_0 : decode cX2_believeFirst 0 = .ok (.iconst 0, 1) := by decide +kernel
theorem dX2_believeFirst_1 : decode cX2_believeFirst 1 = .ok (.istore_n 1, 1) := by decide +kernel
theorem dX2_believeFirst_2 : decode cX2_believeFirst 2 = .ok (.aload_n 0, 1) := by decide +kernel
theorem dX2_believeFirst_3 : decode cX2_believeFirst 3 = .ok (.getfield 42, 3) := by decide +kernel
theorem dX2_believeFirst_6 : decode cX2_believeFirst 6 = .ok (.astore_n 2, 1) := by decide +kernel
theorem dX2_believeFirst_7 : decode cX2_believeFirst 7 = .ok (.aload_n 2, 1) := by decide +kernel
theorem dX2_believeFirst_8 : decode cX2_believeFirst 8 = .ok (.arraylength, 1) := by decide +kernel
theorem dX2_believeFirst_9 : decode cX2_believeFirst 9 = .ok (.istore_n 3, 1) := by decide +kernel
theorem dX2_believeFirst_10 : decode cX2_believeFirst 10 = .ok (.iconst 0, 1) := by decide +kernel
theorem dX2_believeFirst_11 : decode cX2_believeFirst 11 = .ok (.istore 4, 2) := by decide +kernel
theorem dX2_believeFirst_13 : decode cX2_believeFirst 13 = .ok (.iload 4, 2) := by decide +kernel
theorem dX2_believeFirst_15 : decode cX2_believeFirst 15 = .ok (.iload_n 3, 1) := by decide +kernel
theorem dX2_believeFirst_16 : decode cX2_believeFirst 16 = .ok (.if_icmp .ge 30, 3) := by decide +kernel
theorem dX2_believeFirst_19 : decode cX2_believeFirst 19 = .ok (.aload_n 2, 1) := by decide +kernel
theorem dX2_believeFirst_20 : decode cX2_believeFirst 20 = .ok (.iload 4, 2) := by decide +kernel
theorem dX2_believeFirst_22 : decode cX2_believeFirst 22 = .ok (.aaload, 1) := by decide +kernel
theorem dX2_believeFirst_23 : decode cX2_believeFirst 23 = .ok (.astore 5, 2) := by decide +kernel
theorem dX2_believeFirst_25 : decode cX2_believeFirst 25 = .ok (.aload 5, 2) := by decide +kernel
theorem dX2_believeFirst_27 : decode cX2_believeFirst 27 = .ok (.ifnull 13, 3) := by decide +kernel
theorem dX2_believeFirst_30 : decode cX2_believeFirst 30 = .ok (.iload_n 1, 1) := by decide +kernel
theorem dX2_believeFirst_31 : decode cX2_believeFirst 31 = .ok (.aload 5, 2) := by decide +kernel
theorem dX2_believeFirst_33 : decode cX2_believeFirst 33 = .ok (.getfield 138, 3) := by decide +kernel
theorem dX2_believeFirst_36 : decode cX2_believeFirst 36 = .ok (.invokestatic 153, 3) := by decide +kernel
theorem dX2_believeFirst_39 : decode cX2_believeFirst 39 = .ok (.istore_n 1, 1) := by decide +kernel
theorem dX2_believeFirst_40 : decode cX2_believeFirst 40 = .ok (.iinc 4 1, 3) := by decide +kernel
theorem dX2_believeFirst_43 : decode cX2_believeFirst 43 = .ok (.goto (-30), 3) := by decide +kernel
theorem dX2_believeFirst_46 : decode cX2_believeFirst 46 = .ok (.aload_n 0, 1) := by decide +kernel
theorem dX2_believeFirst_47 : decode cX2_believeFirst 47 = .ok (.getfield 42, 3) := by decide +kernel
theorem dX2_believeFirst_50 : decode cX2_believeFirst 50 = .ok (.aload_n 0, 1) := by decide +kernel
theorem dX2_believeFirst_51 : decode cX2_believeFirst 51 = .ok (.iload_n 1, 1) := by decide +kernel
theorem dX2_believeFirst_52 : decode cX2_believeFirst 52 = .ok (.invokevirtual 184, 3) := by decide +kernel
theorem dX2_believeFirst_55 : decode cX2_believeFirst 55 = .ok (.aaload, 1) := by decide +kernel
theorem dX2_believeFirst_56 : decode cX2_believeFirst 56 = .ok (.astore_n 2, 1) := by decide +kernel
theorem dX2_believeFirst_57 : decode cX2_believeFirst 57 = .ok (.aload_n 2, 1) := by decide +kernel
theorem dX2_believeFirst_58 : decode cX2_believeFirst 58 = .ok (.ifnull 32, 3) := by decide +kernel
theorem dX2_believeFirst_61 : decode cX2_believeFirst 61 = .ok (.aload_n 2, 1) := by decide +kernel
theorem dX2_believeFirst_62 : decode cX2_believeFirst 62 = .ok (.getfield 138, 3) := by decide +kernel
theorem dX2_believeFirst_65 : decode cX2_believeFirst 65 = .ok (.iload_n 1, 1) := by decide +kernel
theorem dX2_believeFirst_66 : decode cX2_believeFirst 66 = .ok (.if_icmp .ne 24, 3) := by decide +kernel
theorem dX2_believeFirst_69 : decode cX2_believeFirst 69 = .ok (.aload_n 0, 1) := by decide +kernel
theorem dX2_believeFirst_70 : decode cX2_believeFirst 70 = .ok (.aload_n 2, 1) := by decide +kernel
theorem dX2_believeFirst_71 : decode cX2_believeFirst 71 = .ok (.getfield 151, 3) := by decide +kernel
theorem dX2_believeFirst_74 : decode cX2_believeFirst 74 = .ok (.putfield 33, 3) := by decide +kernel
theorem dX2_believeFirst_77 : decode cX2_believeFirst 77 = .ok (.aload_n 0, 1) := by decide +kernel
theorem dX2_believeFirst_78 : decode cX2_believeFirst 78 = .ok (.aload_n 2, 1) := by decide +kernel
theorem dX2_believeFirst_79 : decode cX2_believeFirst 79 = .ok (.getfield 152, 3) := by decide +kernel
theorem dX2_believeFirst_82 : decode cX2_believeFirst 82 = .ok (.putfield 62, 3) := by decide +kernel
theorem dX2_believeFirst_85 : decode cX2_believeFirst 85 = .ok (.aload_n 0, 1) := by decide +kernel
theorem dX2_believeFirst_86 : decode cX2_believeFirst 86 = .ok (.iload_n 1, 1) := by decide +kernel
theorem dX2_believeFirst_87 : decode cX2_believeFirst 87 = .ok (.invokevirtual 162, 3) := by decide +kernel
theorem dX2_believeFirst_90 : decode cX2_believeFirst 90 = .ok (.return_, 1) := by decide +kernel
set_option maxRecDepth 20000 in
theorem ggX2_castVote_X2_firstOf : GoodIn wsX2_castVote wsX2_firstOf := goodIn_r _ [11, 12, 48, 49, 50, 51, 52, 53, 54, 55, 56, 57, 58, 59, 60, 61, 62, 63, 64] (by decide +kernel) (by decide +kernel)
set_option maxRecDepth 20000 in
theorem gX2_castVote_X2_firstOf : GoodIn wsX2_castVote (wsV RX2 184 RX2 yX2_firstOf wsX2_firstOf) := goodIn_app (goodIn_of _ (by decide +kernel)) ggX2_castVote_X2_firstOf
set_option maxRecDepth 20000 in
theorem ggX2_castVote_X2_write : GoodIn wsX2_castVote wsX2_write := goodIn_r _ [16, 17, 18, 19, 5, 2, 20, 21, 22, 23, 24, 25, 26, 27, 28, 29, 30, 31, 32, 33, 34, 35, 65, 66, 67, 68, 69, 70, 71, 72, 48, 49, 50, 51, 52, 53, 54, 55, 56, 57, 58, 59, 60, 61, 62, 63, 64] (by decide +kernel) (by decide +kernel)
set_option maxRecDepth 20000 in
theorem gX2_castVote_X2_write : GoodIn wsX2_castVote (wsV RX2 96 RX2 yX2_write wsX2_write) := goodIn_app (goodIn_of _ (by decide +kernel)) ggX2_castVote_X2_write
set_option maxRecDepth 20000 in
theorem ggX2_castVote_X2_isFirst : GoodIn wsX2_castVote wsX2_isFirst := goodIn_r _ [39, 2, 5, 7, 8, 9, 10, 11, 12, 48, 49, 50, 51, 52, 53, 54, 55, 56, 57, 58, 59, 60, 61, 62, 63, 64] (by decide +kernel) (by decide +kernel)
set_option maxRecDepth 20000 in
theorem gX2_castVote_X2_isFirst : GoodIn wsX2_castVote (wsV RX2 82 RX2 yX2_isFirst wsX2_isFirst) := goodIn_app (goodIn_of _ (by decide +kernel)) ggX2_castVote_X2_isFirst
set_option maxRecDepth 20000 in
theorem ggX2_castVote_X3_add : GoodIn wsX2_castVote wsX3_add := goodIn_r _ [44, 45, 46, 47, 73, 74, 75] (by decide +kernel) (by decide +kernel)
set_option maxRecDepth 20000 in
theorem gX2_castVote_X3_add : GoodIn wsX2_castVote (wsV RX2 100 RX3 yX3_add wsX3_add) := goodIn_app (goodIn_of _ (by decide +kernel)) ggX2_castVote_X3_add
theorem dX2_castVote_0 : decode cX2_castVote 0 = .ok (.aload_n 0, 1) := by decide +kernel
theorem dX2_castVote_1 : decode cX2_castVote 1 = .ok (.iconst 1, 1) := by decide +kernel
theorem dX2_castVote_2 : decode cX2_castVote 2 = .ok (.putfield 78, 3) := by decide +kernel
theorem dX2_castVote_5 : decode cX2_castVote 5 = .ok (.aload_n 0, 1) := by decide +kernel
theorem dX2_castVote_6 : decode cX2_castVote 6 = .ok (.aload_n 0, 1) := by decide +kernel
theorem dX2_castVote_7 : decode cX2_castVote 7 = .ok (.aload_n 0, 1) := by decide +kernel
theorem dX2_castVote_8 : decode cX2_castVote 8 = .ok (.getfield 51, 3) := by decide +kernel
theorem dX2_castVote_11 : decode cX2_castVote 11 = .ok (.invokevirtual 184, 3) := by decide +kernel
theorem dX2_castVote_14 : decode cX2_castVote 14 = .ok (.iconst 4, 1) := by decide +kernel
theorem dX2_castVote_15 : decode cX2_castVote 15 = .ok (.aload_n 0, 1) := by decide +kernel
theorem dX2_castVote_16 : decode cX2_castVote 16 = .ok (.getfield 54, 3) := by decide +kernel
theorem dX2_castVote_19 : decode cX2_castVote 19 = .ok (.invokevirtual 96, 3) := by decide +kernel
theorem dX2_castVote_22 : decode cX2_castVote 22 = .ok (.astore_n 1, 1) := by decide +kernel
theorem dX2_castVote_23 : decode cX2_castVote 23 = .ok (.aload_n 0, 1) := by decide +kernel
theorem dX2_castVote_24 : decode cX2_castVote 24 = .ok (.invokevirtual 82, 3) := by decide +kernel
theorem dX2_castVote_27 : decode cX2_castVote 27 = .ok (.ifCond .eq 16, 3) := by decide +kernel
theorem dX2_castVote_30 : decode cX2_castVote 30 = .ok (.aload_n 0, 1) := by decide +kernel
theorem dX2_castVote_31 : decode cX2_castVote 31 = .ok (.getfield 38, 3) := by decide +kernel
theorem dX2_castVote_34 : decode cX2_castVote 34 = .ok (.aload_n 0, 1) := by decide +kernel
theorem dX2_castVote_35 : decode cX2_castVote 35 = .ok (.getfield 15, 3) := by decide +kernel
theorem dX2_castVote_38 : decode cX2_castVote 38 = .ok (.aload_n 1, 1) := by decide +kernel
theorem dX2_castVote_39 : decode cX2_castVote 39 = .ok (.aastore, 1) := by decide +kernel
theorem dX2_castVote_40 : decode cX2_castVote 40 = .ok (.goto 11, 3) := by decide +kernel
theorem dX2_castVote_43 : decode cX2_castVote 43 = .ok (.aload_n 0, 1) := by decide +kernel
theorem dX2_castVote_44 : decode cX2_castVote 44 = .ok (.getfield 25, 3) := by decide +kernel
theorem dX2_castVote_47 : decode cX2_castVote 47 = .ok (.aload_n 1, 1) := by decide +kernel
theorem dX2_castVote_48 : decode cX2_castVote 48 = .ok (.invokevirtual 100, 3) := by decide +kernel
theorem dX2_castVote_51 : decode cX2_castVote 51 = .ok (.return_, 1) := by decide +kernel
set_option maxRecDepth 20000 in
theorem ggX2_leadIfElected_X2_countLetters : GoodIn wsX2_leadIfElected wsX2_countLetters := goodIn_r _ [20] (by decide +kernel) (by decide +kernel)
set_option maxRecDepth 20000 in
theorem gX2_leadIfElected_X2_countLetters : GoodIn wsX2_leadIfElected (va_wsS RX2 74 yX2_countLetters wsX2_countLetters) := goodIn_app (goodIn_of _ (by decide +kernel)) ggX2_leadIfElected_X2_countLetters
set_option maxRecDepth 20000 in
theorem ggX2_leadIfElected_X2_isAhead : GoodIn wsX2_leadIfElected wsX2_isAhead := goodIn_r _ [23, 24, 9, 25, 26, 27, 28, 29, 30, 93, 94, 95, 96, 97, 98, 99, 100, 101] (by decide +kernel) (by decide +kernel)
set_option maxRecDepth 20000 in
theorem gX2_leadIfElected_X2_isAhead : GoodIn wsX2_leadIfElected (va_wsS RX2 190 yX2_isAhead wsX2_isAhead) := goodIn_app (goodIn_of _ (by decide +kernel)) ggX2_leadIfElected_X2_isAhead
set_option maxRecDepth 20000 in
theorem ggX2_leadIfElected_X1_size : GoodIn wsX2_leadIfElected wsX1_size := goodIn_r _ [29, 30, 101] (by decide +kernel) (by decide +kernel)
set_option maxRecDepth 20000 in
theorem gX2_leadIfElected_X1_size : GoodIn wsX2_leadIfElected (wsV RX2 57 RX1 yX1_size wsX1_size) := goodIn_app (goodIn_of _ (by decide +kernel)) ggX2_leadIfElected_X1_size
set_option maxRecDepth 20000 in
theorem ggX2_leadIfElected_X2_settleIn : GoodIn wsX2_leadIfElected wsX2_settleIn := goodIn_r _ [34, 15, 35, 36, 76, 77, 78, 79, 80, 81, 82, 83, 84, 85, 86, 87, 88, 89, 90, 91, 92] (by decide +kernel) (by decide +kernel)
set_option maxRecDepth 20000 in
theorem gX2_leadIfElected_X2_settleIn : GoodIn wsX2_leadIfElected (wsV RX2 162 RX2 yX2_settleIn wsX2_settleIn) := goodIn_app (goodIn_of _ (by decide +kernel)) ggX2_leadIfElected_X2_settleIn
set_option maxRecDepth 20000 in
theorem ggX2_leadIfElected_J7_fill_53178 : GoodIn wsX2_leadIfElected wsJ7_fill_53178 := goodIn_r _ [40] (by decide +kernel) (by decide +kernel)
set_option maxRecDepth 20000 in
theorem gX2_leadIfElected_J7_fill_53178 : GoodIn wsX2_leadIfElected (va_wsS RX2 86 yJ7_fill_53178 wsJ7_fill_53178) := goodIn_app (goodIn_of _ (by decide +kernel)) ggX2_leadIfElected_J7_fill_53178
set_option maxRecDepth 20000 in
theorem ggX2_leadIfElected_X2_postToAll : GoodIn wsX2_leadIfElected wsX2_postToAll := goodIn_r _ [44, 45, 2, 46, 47, 48, 49, 19, 50, 51, 52, 53, 15, 10, 54, 14, 55, 56, 57, 58, 59, 60, 61, 62, 63, 64, 65, 66, 67, 68, 69, 70, 71, 72, 73, 74, 75, 76, 77, 78, 79, 80, 81, 82, 83, 84, 85, 86, 87, 88, 89, 90, 91, 92, 93, 94, 95, 96, 97, 98, 99, 100, 102, 103, 104] (by decide +kernel) (by decide +kernel)
set_option maxRecDepth 20000 in
theorem gX2_leadIfElected_X2_postToAll : GoodIn wsX2_leadIfElected (wsV RX2 109 RX2 yX2_postToAll wsX2_postToAll) := goodIn_app (goodIn_of _ (by decide +kernel)) ggX2_leadIfElected_X2_postToAll
theorem dX2_leadIfElected_0 : decode cX2_leadIfElected 0 = .ok (.aload_n 0, 1) := by decide +kernel
theorem dX2_leadIfElected_1 : decode cX2_leadIfElected 1 = .ok (.getfield 38, 3) := by decide +kernel
theorem dX2_leadIfElected_4 : decode cX2_leadIfElected 4 = .ok (.aload_n 0, 1) := by decide +kernel
theorem dX2_leadIfElected_5 : decode cX2_leadIfElected 5 = .ok (.getfield 15, 3) := by decide +kernel
theorem dX2_leadIfElected_8 : decode cX2_leadIfElected 8 = .ok (.aaload, 1) := by decide +kernel
theorem dX2_leadIfElected_9 : decode cX2_leadIfElected 9 = .ok (.ifnull 17, 3) := by decide +kernel
theorem dX2_leadIfElected_12 : decode cX2_leadIfElected 12 = .ok (.aload_n 0, 1) := by decide +kernel
theorem dX2_leadIfElected_13 : decode cX2_leadIfElected 13 = .ok (.getfield 38, 3) := by decide +kernel
theorem dX2_leadIfElected_16 : decode cX2_leadIfElected 16 = .ok (.invokestatic 74, 3) := by decide +kernel
theorem dX2_leadIfElected_19 : decode cX2_leadIfElected 19 = .ok (.aload_n 0, 1) := by decide +kernel
theorem dX2_leadIfElected_20 : decode cX2_leadIfElected 20 = .ok (.getfield 22, 3) := by decide +kernel
theorem dX2_leadIfElected_23 : decode cX2_leadIfElected 23 = .ok (.if_icmp .gt 4, 3) := by decide +kernel
theorem dX2_leadIfElected_26 : decode cX2_leadIfElected 26 = .ok (.return_, 1) := by decide +kernel
theorem dX2_leadIfElected_27 : decode cX2_leadIfElected 27 = .ok (.aconst_null, 1) := by decide +kernel
theorem dX2_leadIfElected_28 : decode cX2_leadIfElected 28 = .ok (.astore_n 1, 1) := by decide +kernel
theorem dX2_leadIfElected_29 : decode cX2_leadIfElected 29 = .ok (.iconst 0, 1) := by decide +kernel
theorem dX2_leadIfElected_30 : decode cX2_leadIfElected 30 = .ok (.istore_n 2, 1) := by decide +kernel
theorem dX2_leadIfElected_31 : decode cX2_leadIfElected 31 = .ok (.aload_n 0, 1) := by decide +kernel
theorem dX2_leadIfElected_32 : decode cX2_leadIfElected 32 = .ok (.getfield 38, 3) := by decide +kernel
theorem dX2_leadIfElected_35 : decode cX2_leadIfElected 35 = .ok (.astore_n 3, 1) := by decide +kernel
theorem dX2_leadIfElected_36 : decode cX2_leadIfElected 36 = .ok (.aload_n 3, 1) := by decide +kernel
theorem dX2_leadIfElected_37 : decode cX2_leadIfElected 37 = .ok (.arraylength, 1) := by decide +kernel
theorem dX2_leadIfElected_38 : decode cX2_leadIfElected 38 = .ok (.istore 4, 2) := by decide +kernel
theorem dX2_leadIfElected_40 : decode cX2_leadIfElected 40 = .ok (.iconst 0, 1) := by decide +kernel
theorem dX2_leadIfElected_41 : decode cX2_leadIfElected 41 = .ok (.istore 5, 2) := by decide +kernel
theorem dX2_leadIfElected_43 : decode cX2_leadIfElected 43 = .ok (.iload 5, 2) := by decide +kernel
theorem dX2_leadIfElected_45 : decode cX2_leadIfElected 45 = .ok (.iload 4, 2) := by decide +kernel
theorem dX2_leadIfElected_47 : decode cX2_leadIfElected 47 = .ok (.if_icmp .ge 50, 3) := by decide +kernel
theorem dX2_leadIfElected_50 : decode cX2_leadIfElected 50 = .ok (.aload_n 3, 1) := by decide +kernel
theorem dX2_leadIfElected_51 : decode cX2_leadIfElected 51 = .ok (.iload 5, 2) := by decide +kernel
theorem dX2_leadIfElected_53 : decode cX2_leadIfElected 53 = .ok (.aaload, 1) := by decide +kernel
theorem dX2_leadIfElected_54 : decode cX2_leadIfElected 54 = .ok (.astore 6, 2) := by decide +kernel
theorem dX2_leadIfElected_56 : decode cX2_leadIfElected 56 = .ok (.aload 6, 2) := by decide +kernel
theorem dX2_leadIfElected_58 : decode cX2_leadIfElected 58 = .ok (.ifnull 33, 3) := by decide +kernel
theorem dX2_leadIfElected_61 : decode cX2_leadIfElected 61 = .ok (.aload_n 1, 1) := by decide +kernel
theorem dX2_leadIfElected_62 : decode cX2_leadIfElected 62 = .ok (.ifnull 12, 3) := by decide +kernel
theorem dX2_leadIfElected_65 : decode cX2_leadIfElected 65 = .ok (.aload 6, 2) := by decide +kernel
theorem dX2_leadIfElected_67 : decode cX2_leadIfElected 67 = .ok (.aload_n 1, 1) := by decide +kernel
theorem dX2_leadIfElected_68 : decode cX2_leadIfElected 68 = .ok (.invokestatic 190, 3) := by decide +kernel
theorem dX2_leadIfElected_71 : decode cX2_leadIfElected 71 = .ok (.ifCond .eq 8, 3) := by decide +kernel
theorem dX2_leadIfElected_74 : decode cX2_leadIfElected 74 = .ok (.aload 6, 2) := by decide +kernel
theorem dX2_leadIfElected_76 : decode cX2_leadIfElected 76 = .ok (.goto 4, 3) := by decide +kernel
theorem dX2_leadIfElected_79 : decode cX2_leadIfElected 79 = .ok (.aload_n 1, 1) := by decide +kernel
theorem dX2_leadIfElected_80 : decode cX2_leadIfElected 80 = .ok (.astore_n 1, 1) := by decide +kernel
theorem dX2_leadIfElected_81 : decode cX2_leadIfElected 81 = .ok (.iload_n 2, 1) := by decide +kernel
theorem dX2_leadIfElected_82 : decode cX2_leadIfElected 82 = .ok (.aload 6, 2) := by decide +kernel
theorem dX2_leadIfElected_84 : decode cX2_leadIfElected 84 = .ok (.getfield 152, 3) := by decide +kernel
theorem dX2_leadIfElected_87 : decode cX2_leadIfElected 87 = .ok (.invokestatic 153, 3) := by decide +kernel
theorem dX2_leadIfElected_90 : decode cX2_leadIfElected 90 = .ok (.istore_n 2, 1) := by decide +kernel
theorem dX2_leadIfElected_91 : decode cX2_leadIfElected 91 = .ok (.iinc 5 1, 3) := by decide +kernel
theorem dX2_leadIfElected_94 : decode cX2_leadIfElected 94 = .ok (.goto (-51), 3) := by decide +kernel
theorem dX2_leadIfElected_97 : decode cX2_leadIfElected 97 = .ok (.aload_n 1, 1) := by decide +kernel
theorem dX2_leadIfElected_98 : decode cX2_leadIfElected 98 = .ok (.ifnonnull 4, 3) := by decide +kernel
theorem dX2_leadIfElected_101 : decode cX2_leadIfElected 101 = .ok (.return_, 1) := by decide +kernel
theorem dX2_leadIfElected_102 : decode cX2_leadIfElected 102 = .ok (.aload_n 0, 1) := by decide +kernel
theorem dX2_leadIfElected_103 : decode cX2_leadIfElected 103 = .ok (.aload_n 1, 1) := by decide +kernel
theorem dX2_leadIfElected_104 : decode cX2_leadIfElected 104 = .ok (.getfield 151, 3) := by decide +kernel
theorem dX2_leadIfElected_107 : decode cX2_leadIfElected 107 = .ok (.putfield 33, 3) := by decide +kernel
theorem dX2_leadIfElected_110 : decode cX2_leadIfElected 110 = .ok (.aload_n 0, 1) := by decide +kernel
theorem dX2_leadIfElected_111 : decode cX2_leadIfElected 111 = .ok (.iload_n 2, 1) := by decide +kernel
theorem dX2_leadIfElected_112 : decode cX2_leadIfElected 112 = .ok (.aload_n 0, 1) := by decide +kernel
theorem dX2_leadIfElected_113 : decode cX2_leadIfElected 113 = .ok (.getfield 33, 3) := by decide +kernel
theorem dX2_leadIfElected_116 : decode cX2_leadIfElected 116 = .ok (.invokevirtual 57, 3) := by decide +kernel
theorem dX2_leadIfElected_119 : decode cX2_leadIfElected 119 = .ok (.invokestatic 159, 3) := by decide +kernel
theorem dX2_leadIfElected_122 : decode cX2_leadIfElected 122 = .ok (.putfield 62, 3) := by decide +kernel
theorem dX2_leadIfElected_125 : decode cX2_leadIfElected 125 = .ok (.aload_n 0, 1) := by decide +kernel
theorem dX2_leadIfElected_126 : decode cX2_leadIfElected 126 = .ok (.aload_n 0, 1) := by decide +kernel
theorem dX2_leadIfElected_127 : decode cX2_leadIfElected 127 = .ok (.getfield 51, 3) := by decide +kernel
theorem dX2_leadIfElected_130 : decode cX2_leadIfElected 130 = .ok (.invokevirtual 162, 3) := by decide +kernel
theorem dX2_leadIfElected_133 : decode cX2_leadIfElected 133 = .ok (.aload_n 0, 1) := by decide +kernel
theorem dX2_leadIfElected_134 : decode cX2_leadIfElected 134 = .ok (.getfield 45, 3) := by decide +kernel
theorem dX2_leadIfElected_137 : decode cX2_leadIfElected 137 = .ok (.iconst 0, 1) := by decide +kernel
theorem dX2_leadIfElected_138 : decode cX2_leadIfElected 138 = .ok (.invokestatic 86, 3) := by decide +kernel
theorem dX2_leadIfElected_141 : decode cX2_leadIfElected 141 = .ok (.aload_n 0, 1) := by decide +kernel
theorem dX2_leadIfElected_142 : decode cX2_leadIfElected 142 = .ok (.iconst 5, 1) := by decide +kernel
theorem dX2_leadIfElected_143 : decode cX2_leadIfElected 143 = .ok (.iconst 0, 1) := by decide +kernel
theorem dX2_leadIfElected_144 : decode cX2_leadIfElected 144 = .ok (.invokevirtual 109, 3) := by decide +kernel
theorem dX2_leadIfElected_147 : decode cX2_leadIfElected 147 = .ok (.return_, 1) := by decide +kernel
set_option maxRecDepth 20000 in
theorem ggX2_isAhead_X1_size : GoodIn wsX2_isAhead wsX1_size := goodIn_r _ [7, 8, 17] (by decide +kernel) (by decide +kernel)
set_option maxRecDepth 20000 in
theorem gX2_isAhead_X1_size : GoodIn wsX2_isAhead (wsV RX2 57 RX1 yX1_size wsX1_size) := goodIn_app (goodIn_of _ (by decide +kernel)) ggX2_isAhead_X1_size
theorem dX2_isAhead_0 : decode cX2_isAhead 0 = .ok (.aload_n 0, 1) := by decide +kernel
theorem dX2_isAhead_1 : decode cX2_isAhead 1 = .ok (.getfield 172, 3) := by decide +kernel
theorem dX2_isAhead_4 : decode cX2_isAhead 4 = .ok (.aload_n 1, 1) := by decide +kernel
theorem dX2_isAhead_5 : decode cX2_isAhead 5 = .ok (.getfield 172, 3) := by decide +kernel
theorem dX2_isAhead_8 : decode cX2_isAhead 8 = .ok (.if_icmp .eq 20, 3) := by decide +kernel
theorem dX2_isAhead_11 : decode cX2_isAhead 11 = .ok (.aload_n 0, 1) := by decide +kernel
theorem dX2_isAhead_12 : decode cX2_isAhead 12 = .ok (.getfield 172, 3) := by decide +kernel
theorem dX2_isAhead_15 : decode cX2_isAhead 15 = .ok (.aload_n 1, 1) := by decide +kernel
theorem dX2_isAhead_16 : decode cX2_isAhead 16 = .ok (.getfield 172, 3) := by decide +kernel
theorem dX2_isAhead_19 : decode cX2_isAhead 19 = .ok (.if_icmp .le 7, 3) := by decide +kernel
theorem dX2_isAhead_22 : decode cX2_isAhead 22 = .ok (.iconst 1, 1) := by decide +kernel
theorem dX2_isAhead_23 : decode cX2_isAhead 23 = .ok (.goto 4, 3) := by decide +kernel
theorem dX2_isAhead_26 : decode cX2_isAhead 26 = .ok (.iconst 0, 1) := by decide +kernel
theorem dX2_isAhead_27 : decode cX2_isAhead 27 = .ok (.ireturn, 1) := by decide +kernel
theorem dX2_isAhead_28 : decode cX2_isAhead 28 = .ok (.aload_n 0, 1) := by decide +kernel
theorem dX2_isAhead_29 : decode cX2_isAhead 29 = .ok (.getfield 151, 3) := by decide +kernel
theorem dX2_isAhead_32 : decode cX2_isAhead 32 = .ok (.invokevirtual 57, 3) := by decide +kernel
theorem dX2_isAhead_35 : decode cX2_isAhead 35 = .ok (.aload_n 1, 1) := by decide +kernel
theorem dX2_isAhead_36 : decode cX2_isAhead 36 = .ok (.getfield 151, 3) := by decide +kernel
theorem dX2_isAhead_39 : decode cX2_isAhead 39 = .ok (.invokevirtual 57, 3) := by decide +kernel
theorem dX2_isAhead_42 : decode cX2_isAhead 42 = .ok (.if_icmp .le 7, 3) := by decide +kernel
theorem dX2_isAhead_45 : decode cX2_isAhead 45 = .ok (.iconst 1, 1) := by decide +kernel
theorem dX2_isAhead_46 : decode cX2_isAhead 46 = .ok (.goto 4, 3) := by decide +kernel
theorem dX2_isAhead_49 : decode cX2_isAhead 49 = .ok (.iconst 0, 1) := by decide +kernel
theorem dX2_isAhead_50 : decode cX2_isAhead 50 = .ok (.ireturn, 1) := by decide +kernel
theorem dX2_settleIn_0 : decode cX2_settleIn 0 = .ok (.aload_n 0, 1) := by decide +kernel
theorem dX2_settleIn_1 : decode cX2_settleIn 1 = .ok (.iload_n 1, 1) := by decide +kernel
theorem dX2_settleIn_2 : decode cX2_settleIn 2 = .ok (.putfield 51, 3) := by decide +kernel
theorem dX2_settleIn_5 : decode cX2_settleIn 5 = .ok (.aload_n 0, 1) := by decide +kernel
theorem dX2_settleIn_6 : decode cX2_settleIn 6 = .ok (.iload_n 1, 1) := by decide +kernel
theorem dX2_settleIn_7 : decode cX2_settleIn 7 = .ok (.putfield 54, 3) := by decide +kernel
theorem dX2_settleIn_10 : decode cX2_settleIn 10 = .ok (.aload_n 0, 1) := by decide +kernel
theorem dX2_settleIn_11 : decode cX2_settleIn 11 = .ok (.iconst 0, 1) := by decide +kernel
theorem dX2_settleIn_12 : decode cX2_settleIn 12 = .ok (.putfield 48, 3) := by decide +kernel
theorem dX2_settleIn_15 : decode cX2_settleIn 15 = .ok (.return_, 1) := by decide +kernel
set_option maxRecDepth 20000 in
theorem ggX2_heldByEnough_X2_countTold : GoodIn wsX2_heldByEnough wsX2_countTold := goodIn_r _ [7, 1, 8, 9, 10, 11, 12, 13, 14, 15, 16, 17, 18, 19, 20, 21, 22, 23, 24] (by decide +kernel) (by decide +kernel)
set_option maxRecDepth 20000 in
theorem gX2_heldByEnough_X2_countTold : GoodIn wsX2_heldByEnough (wsV RX2 194 RX2 yX2_countTold wsX2_countTold) := goodIn_app (goodIn_of _ (by decide +kernel)) ggX2_heldByEnough_X2_countTold
theorem dX2_heldByEnough_0 : decode cX2_heldByEnough 0 = .ok (.iconst 0, 1) := by decide +kernel
theorem dX2_heldByEnough_1 : decode cX2_heldByEnough 1 = .ok (.istore_n 1, 1) := by decide +kernel
theorem dX2_heldByEnough_2 : decode cX2_heldByEnough 2 = .ok (.aload_n 0, 1) := by decide +kernel
theorem dX2_heldByEnough_3 : decode cX2_heldByEnough 3 = .ok (.getfield 45, 3) := by decide +kernel
theorem dX2_heldByEnough_6 : decode cX2_heldByEnough 6 = .ok (.astore_n 2, 1) := by decide +kernel
theorem dX2_heldByEnough_7 : decode cX2_heldByEnough 7 = .ok (.aload_n 2, 1) := by decide +kernel
theorem dX2_heldByEnough_8 : decode cX2_heldByEnough 8 = .ok (.arraylength, 1) := by decide +kernel
theorem dX2_heldByEnough_9 : decode cX2_heldByEnough 9 = .ok (.istore_n 3, 1) := by decide +kernel
theorem dX2_heldByEnough_10 : decode cX2_heldByEnough 10 = .ok (.iconst 0, 1) := by decide +kernel
theorem dX2_heldByEnough_11 : decode cX2_heldByEnough 11 = .ok (.istore 4, 2) := by decide +kernel
theorem dX2_heldByEnough_13 : decode cX2_heldByEnough 13 = .ok (.iload 4, 2) := by decide +kernel
theorem dX2_heldByEnough_15 : decode cX2_heldByEnough 15 = .ok (.iload_n 3, 1) := by decide +kernel
theorem dX2_heldByEnough_16 : decode cX2_heldByEnough 16 = .ok (.if_icmp .ge 37, 3) := by decide +kernel
theorem dX2_heldByEnough_19 : decode cX2_heldByEnough 19 = .ok (.aload_n 2, 1) := by decide +kernel
theorem dX2_heldByEnough_20 : decode cX2_heldByEnough 20 = .ok (.iload 4, 2) := by decide +kernel
theorem dX2_heldByEnough_22 : decode cX2_heldByEnough 22 = .ok (.iaload, 1) := by decide +kernel
theorem dX2_heldByEnough_23 : decode cX2_heldByEnough 23 = .ok (.istore 5, 2) := by decide +kernel
theorem dX2_heldByEnough_25 : decode cX2_heldByEnough 25 = .ok (.iload 5, 2) := by decide +kernel
theorem dX2_heldByEnough_27 : decode cX2_heldByEnough 27 = .ok (.iload_n 1, 1) := by decide +kernel
theorem dX2_heldByEnough_28 : decode cX2_heldByEnough 28 = .ok (.if_icmp .le 19, 3) := by decide +kernel
theorem dX2_heldByEnough_31 : decode cX2_heldByEnough 31 = .ok (.aload_n 0, 1) := by decide +kernel
theorem dX2_heldByEnough_32 : decode cX2_heldByEnough 32 = .ok (.iload 5, 2) := by decide +kernel
theorem dX2_heldByEnough_34 : decode cX2_heldByEnough 34 = .ok (.invokevirtual 194, 3) := by decide +kernel
theorem dX2_heldByEnough_37 : decode cX2_heldByEnough 37 = .ok (.aload_n 0, 1) := by decide +kernel
theorem dX2_heldByEnough_38 : decode cX2_heldByEnough 38 = .ok (.getfield 22, 3) := by decide +kernel
theorem dX2_heldByEnough_41 : decode cX2_heldByEnough 41 = .ok (.if_icmp .lt 6, 3) := by decide +kernel
theorem dX2_heldByEnough_44 : decode cX2_heldByEnough 44 = .ok (.iload 5, 2) := by decide +kernel
theorem dX2_heldByEnough_46 : decode cX2_heldByEnough 46 = .ok (.istore_n 1, 1) := by decide +kernel
theorem dX2_heldByEnough_47 : decode cX2_heldByEnough 47 = .ok (.iinc 4 1, 3) := by decide +kernel
theorem dX2_heldByEnough_50 : decode cX2_heldByEnough 50 = .ok (.goto (-37), 3) := by decide +kernel
theorem dX2_heldByEnough_53 : decode cX2_heldByEnough 53 = .ok (.iload_n 1, 1) := by decide +kernel
theorem dX2_heldByEnough_54 : decode cX2_heldByEnough 54 = .ok (.ireturn, 1) := by decide +kernel
theorem dX2_countTold_0 : decode cX2_countTold 0 = .ok (.iconst 0, 1) := by decide +kernel
theorem dX2_countTold_1 : decode cX2_countTold 1 = .ok (.istore_n 2, 1) := by decide +kernel
theorem dX2_countTold_2 : decode cX2_countTold 2 = .ok (.aload_n 0, 1) := by decide +kernel
theorem dX2_countTold_3 : decode cX2_countTold 3 = .ok (.getfield 45, 3) := by decide +kernel
theorem dX2_countTold_6 : decode cX2_countTold 6 = .ok (.astore_n 3, 1) := by decide +kernel
theorem dX2_countTold_7 : decode cX2_countTold 7 = .ok (.aload_n 3, 1) := by decide +kernel
theorem dX2_countTold_8 : decode cX2_countTold 8 = .ok (.arraylength, 1) := by decide +kernel
theorem dX2_countTold_9 : decode cX2_countTold 9 = .ok (.istore 4, 2) := by decide +kernel
theorem dX2_countTold_11 : decode cX2_countTold 11 = .ok (.iconst 0, 1) := by decide +kernel
theorem dX2_countTold_12 : decode cX2_countTold 12 = .ok (.istore 5, 2) := by decide +kernel
theorem dX2_countTold_14 : decode cX2_countTold 14 = .ok (.iload 5, 2) := by decide +kernel
theorem dX2_countTold_16 : decode cX2_countTold 16 = .ok (.iload 4, 2) := by decide +kernel
theorem dX2_countTold_18 : decode cX2_countTold 18 = .ok (.if_icmp .ge 29, 3) := by decide +kernel
theorem dX2_countTold_21 : decode cX2_countTold 21 = .ok (.aload_n 3, 1) := by decide +kernel
theorem dX2_countTold_22 : decode cX2_countTold 22 = .ok (.iload 5, 2) := by decide +kernel
theorem dX2_countTold_24 : decode cX2_countTold 24 = .ok (.iaload, 1) := by decide +kernel
theorem dX2_countTold_25 : decode cX2_countTold 25 = .ok (.istore 6, 2) := by decide +kernel
theorem dX2_countTold_27 : decode cX2_countTold 27 = .ok (.iload_n 2, 1) := by decide +kernel
theorem dX2_countTold_28 : decode cX2_countTold 28 = .ok (.iload 6, 2) := by decide +kernel
theorem dX2_countTold_30 : decode cX2_countTold 30 = .ok (.iload_n 1, 1) := by decide +kernel
theorem dX2_countTold_31 : decode cX2_countTold 31 = .ok (.if_icmp .lt 7, 3) := by decide +kernel
theorem dX2_countTold_34 : decode cX2_countTold 34 = .ok (.iconst 1, 1) := by decide +kernel
theorem dX2_countTold_35 : decode cX2_countTold 35 = .ok (.goto 4, 3) := by decide +kernel
theorem dX2_countTold_38 : decode cX2_countTold 38 = .ok (.iconst 0, 1) := by decide +kernel
theorem dX2_countTold_39 : decode cX2_countTold 39 = .ok (.iadd, 1) := by decide +kernel
theorem dX2_countTold_40 : decode cX2_countTold 40 = .ok (.istore_n 2, 1) := by decide +kernel
theorem dX2_countTold_41 : decode cX2_countTold 41 = .ok (.iinc 5 1, 3) := by decide +kernel
theorem dX2_countTold_44 : decode cX2_countTold 44 = .ok (.goto (-30), 3) := by decide +kernel
theorem dX2_countTold_47 : decode cX2_countTold 47 = .ok (.iload_n 2, 1) := by decide +kernel
theorem dX2_countTold_48 : decode cX2_countTold 48 = .ok (.ireturn, 1) := by decide +kernel
set_option maxRecDepth 20000 in
theorem ggX2_postOk_X2_firstOf : GoodIn wsX2_postOk wsX2_firstOf := goodIn_r _ [8, 9, 47, 48, 49, 50, 51, 52, 53, 54, 55, 56, 57, 58, 59, 60, 61, 62, 63] (by decide +kernel) (by decide +kernel)
set_option maxRecDepth 20000 in
theorem gX2_postOk_X2_firstOf : GoodIn wsX2_postOk (wsV RX2 184 RX2 yX2_firstOf wsX2_firstOf) := goodIn_app (goodIn_of _ (by decide +kernel)) ggX2_postOk_X2_firstOf
set_option maxRecDepth 20000 in
theorem ggX2_postOk_X1_size : GoodIn wsX2_postOk wsX1_size := goodIn_r _ [14, 15, 64] (by decide +kernel) (by decide +kernel)
set_option maxRecDepth 20000 in
theorem gX2_postOk_X1_size : GoodIn wsX2_postOk (wsV RX2 57 RX1 yX1_size wsX1_size) := goodIn_app (goodIn_of _ (by decide +kernel)) ggX2_postOk_X1_size
set_option maxRecDepth 20000 in
theorem ggX2_postOk_X2_write : GoodIn wsX2_postOk wsX2_write := goodIn_r _ [19, 20, 21, 22, 23, 2, 3, 24, 25, 26, 27, 28, 29, 30, 31, 32, 33, 34, 35, 36, 37, 38, 65, 66, 67, 68, 69, 70, 71, 72, 47, 48, 49, 50, 51, 52, 53, 54, 55, 56, 57, 58, 59, 60, 61, 62, 63] (by decide +kernel) (by decide +kernel)
set_option maxRecDepth 20000 in
theorem gX2_postOk_X2_write : GoodIn wsX2_postOk (wsV RX2 96 RX2 yX2_write wsX2_write) := goodIn_app (goodIn_of _ (by decide +kernel)) ggX2_postOk_X2_write
set_option maxRecDepth 20000 in
theorem ggX2_postOk_X3_add : GoodIn wsX2_postOk wsX3_add := goodIn_r _ [43, 44, 45, 46, 73, 74, 75] (by decide +kernel) (by decide +kernel)
set_option maxRecDepth 20000 in
theorem gX2_postOk_X3_add : GoodIn wsX2_postOk (wsV RX2 100 RX3 yX3_add wsX3_add) := goodIn_app (goodIn_of _ (by decide +kernel)) ggX2_postOk_X3_add
theorem dX2_postOk_0 : decode cX2_postOk 0 = .ok (.aload_n 0, 1) := by decide +kernel
theorem dX2_postOk_1 : decode cX2_postOk 1 = .ok (.getfield 25, 3) := by decide +kernel
theorem dX2_postOk_4 : decode cX2_postOk 4 = .ok (.aload_n 0, 1) := by decide +kernel
theorem dX2_postOk_5 : decode cX2_postOk 5 = .ok (.aload_n 0, 1) := by decide +kernel
theorem dX2_postOk_6 : decode cX2_postOk 6 = .ok (.aload_n 0, 1) := by decide +kernel
theorem dX2_postOk_7 : decode cX2_postOk 7 = .ok (.getfield 51, 3) := by decide +kernel
theorem dX2_postOk_10 : decode cX2_postOk 10 = .ok (.invokevirtual 184, 3) := by decide +kernel
theorem dX2_postOk_13 : decode cX2_postOk 13 = .ok (.iconst 2, 1) := by decide +kernel
theorem dX2_postOk_14 : decode cX2_postOk 14 = .ok (.aload_n 0, 1) := by decide +kernel
theorem dX2_postOk_15 : decode cX2_postOk 15 = .ok (.getfield 33, 3) := by decide +kernel
theorem dX2_postOk_18 : decode cX2_postOk 18 = .ok (.invokevirtual 57, 3) := by decide +kernel
theorem dX2_postOk_21 : decode cX2_postOk 21 = .ok (.invokevirtual 96, 3) := by decide +kernel
theorem dX2_postOk_24 : decode cX2_postOk 24 = .ok (.invokevirtual 100, 3) := by decide +kernel
theorem dX2_postOk_27 : decode cX2_postOk 27 = .ok (.return_, 1) := by decide +kernel
set_option maxRecDepth 20000 in
theorem ggX2_write_X0_init : GoodIn wsX2_write wsX0_init := goodIn_r _ [11, 12, 13, 14, 15, 16, 17, 18, 19, 20, 21, 22, 23, 24, 25, 26, 27, 28, 29] (by decide +kernel) (by decide +kernel)
set_option maxRecDepth 20000 in
theorem gX2_write_X0_init : GoodIn wsX2_write (wsX0_init) := ggX2_write_X0_init
theorem dX2_write_0 : decode cX2_write 0 = .ok (.iload_n 2, 1) := by decide +kernel
theorem dX2_write_1 : decode cX2_write 1 = .ok (.iconst 1, 1) := by decide +kernel
theorem dX2_write_2 : decode cX2_write 2 = .ok (.if_icmp .eq 19, 3) := by decide +kernel
theorem dX2_write_5 : decode cX2_write 5 = .ok (.iload_n 2, 1) := by decide +kernel
theorem dX2_write_6 : decode cX2_write 6 = .ok (.iconst 4, 1) := by decide +kernel
theorem dX2_write_7 : decode cX2_write 7 = .ok (.if_icmp .eq 14, 3) := by decide +kernel
theorem dX2_write_10 : decode cX2_write 10 = .ok (.iload_n 2, 1) := by decide +kernel
theorem dX2_write_11 : decode cX2_write 11 = .ok (.iconst 5, 1) := by decide +kernel
theorem dX2_write_12 : decode cX2_write 12 = .ok (.if_icmp .eq 9, 3) := by decide +kernel
theorem dX2_write_15 : decode cX2_write 15 = .ok (.iload_n 2, 1) := by decide +kernel
theorem dX2_write_16 : decode cX2_write 16 = .ok (.bipush 7, 2) := by decide +kernel
theorem dX2_write_18 : decode cX2_write 18 = .ok (.if_icmp .ne 7, 3) := by decide +kernel
theorem dX2_write_21 : decode cX2_write 21 = .ok (.iconst 1, 1) := by decide +kernel
theorem dX2_write_22 : decode cX2_write 22 = .ok (.goto 4, 3) := by decide +kernel
theorem dX2_write_25 : decode cX2_write 25 = .ok (.iconst 0, 1) := by decide +kernel
theorem dX2_write_26 : decode cX2_write 26 = .ok (.istore 4, 2) := by decide +kernel
theorem dX2_write_28 : decode cX2_write 28 = .ok (.new 36, 3) := by decide +kernel
theorem dX2_write_31 : decode cX2_write 31 = .ok (.dup, 1) := by decide +kernel
theorem dX2_write_32 : decode cX2_write 32 = .ok (.aload_n 0, 1) := by decide +kernel
theorem dX2_write_33 : decode cX2_write 33 = .ok (.getfield 15, 3) := by decide +kernel
theorem dX2_write_36 : decode cX2_write 36 = .ok (.iload_n 1, 1) := by decide +kernel
theorem dX2_write_37 : decode cX2_write 37 = .ok (.iload_n 2, 1) := by decide +kernel
theorem dX2_write_38 : decode cX2_write 38 = .ok (.aload_n 0, 1) := by decide +kernel
theorem dX2_write_39 : decode cX2_write 39 = .ok (.getfield 51, 3) := by decide +kernel
theorem dX2_write_42 : decode cX2_write 42 = .ok (.iload 4, 2) := by decide +kernel
theorem dX2_write_44 : decode cX2_write 44 = .ok (.ifCond .eq 10, 3) := by decide +kernel
theorem dX2_write_47 : decode cX2_write 47 = .ok (.aload_n 0, 1) := by decide +kernel
theorem dX2_write_48 : decode cX2_write 48 = .ok (.getfield 33, 3) := by decide +kernel
theorem dX2_write_51 : decode cX2_write 51 = .ok (.goto 7, 3) := by decide +kernel
theorem dX2_write_54 : decode cX2_write 54 = .ok (.aload_n 0, 1) := by decide +kernel
theorem dX2_write_55 : decode cX2_write 55 = .ok (.getfield 29, 3) := by decide +kernel
theorem dX2_write_58 : decode cX2_write 58 = .ok (.iload 4, 2) := by decide +kernel
theorem dX2_write_60 : decode cX2_write 60 = .ok (.ifCond .eq 10, 3) := by decide +kernel
theorem dX2_write_63 : decode cX2_write 63 = .ok (.aload_n 0, 1) := by decide +kernel
theorem dX2_write_64 : decode cX2_write 64 = .ok (.getfield 62, 3) := by decide +kernel
theorem dX2_write_67 : decode cX2_write 67 = .ok (.goto 4, 3) := by decide +kernel
theorem dX2_write_70 : decode cX2_write 70 = .ok (.iconst 0, 1) := by decide +kernel
theorem dX2_write_71 : decode cX2_write 71 = .ok (.iload_n 3, 1) := by decide +kernel
theorem dX2_write_72 : decode cX2_write 72 = .ok (.invokespecial 197, 3) := by decide +kernel
theorem dX2_write_75 : decode cX2_write 75 = .ok (.areturn, 1) := by decide +kernel
set_option maxRecDepth 20000 in
theorem ggX2_isFirst_X2_firstOf : GoodIn wsX2_isFirst wsX2_firstOf := goodIn_r _ [7, 8, 9, 10, 11, 12, 13, 14, 15, 16, 17, 18, 19, 20, 21, 22, 23, 24, 25] (by decide +kernel) (by decide +kernel)
set_option maxRecDepth 20000 in
theorem gX2_isFirst_X2_firstOf : GoodIn wsX2_isFirst (wsV RX2 184 RX2 yX2_firstOf wsX2_firstOf) := goodIn_app (goodIn_of _ (by decide +kernel)) ggX2_isFirst_X2_firstOf
theorem dX2_isFirst_0 : decode cX2_isFirst 0 = .ok (.aload_n 0, 1) := by decide +kernel
theorem dX2_isFirst_1 : decode cX2_isFirst 1 = .ok (.aload_n 0, 1) := by decide +kernel
theorem dX2_isFirst_2 : decode cX2_isFirst 2 = .ok (.getfield 51, 3) := by decide +kernel
theorem dX2_isFirst_5 : decode cX2_isFirst 5 = .ok (.invokevirtual 184, 3) := by decide +kernel
theorem dX2_isFirst_8 : decode cX2_isFirst 8 = .ok (.aload_n 0, 1) := by decide +kernel
theorem dX2_isFirst_9 : decode cX2_isFirst 9 = .ok (.getfield 15, 3) := by decide +kernel
theorem dX2_isFirst_12 : decode cX2_isFirst 12 = .ok (.if_icmp .ne 7, 3) := by decide +kernel
theorem dX2_isFirst_15 : decode cX2_isFirst 15 = .ok (.iconst 1, 1) := by decide +kernel
theorem dX2_isFirst_16 : decode cX2_isFirst 16 = .ok (.goto 4, 3) := by decide +kernel
theorem dX2_isFirst_19 : decode cX2_isFirst 19 = .ok (.iconst 0, 1) := by decide +kernel
theorem dX2_isFirst_20 : decode cX2_isFirst 20 = .ok (.ireturn, 1) := by decide +kernel
theorem dX2_firstOf_0 : decode cX2_firstOf 0 = .ok (.aload_n 0, 1) := by decide +kernel
theorem dX2_firstOf_1 : decode cX2_firstOf 1 = .ok (.getfield 19, 3) := by decide +kernel
theorem dX2_firstOf_4 : decode cX2_firstOf 4 = .ok (.iconst 5, 1) := by decide +kernel
theorem dX2_firstOf_5 : decode cX2_firstOf 5 = .ok (.if_icmp .ne 9, 3) := by decide +kernel
theorem dX2_firstOf_8 : decode cX2_firstOf 8 = .ok (.iload_n 1, 1) := by decide +kernel
theorem dX2_firstOf_9 : decode cX2_firstOf 9 = .ok (.iconst 5, 1) := by decide +kernel
theorem dX2_firstOf_10 : decode cX2_firstOf 10 = .ok (.irem, 1) := by decide +kernel
theorem dX2_firstOf_11 : decode cX2_firstOf 11 = .ok (.goto 6, 3) := by decide +kernel
theorem dX2_firstOf_14 : decode cX2_firstOf 14 = .ok (.iload_n 1, 1) := by decide +kernel
theorem dX2_firstOf_15 : decode cX2_firstOf 15 = .ok (.iconst 3, 1) := by decide +kernel
theorem dX2_firstOf_16 : decode cX2_firstOf 16 = .ok (.irem, 1) := by decide +kernel
theorem dX2_firstOf_17 : decode cX2_firstOf 17 = .ok (.ireturn, 1) := by decide +kernel
theorem dX2_forgetVotes_0 : decode cX2_forgetVotes 0 = .ok (.aload_n 0, 1) := by decide +kernel
theorem dX2_forgetVotes_1 : decode cX2_forgetVotes 1 = .ok (.iconst 0, 1) := by decide +kernel
theorem dX2_forgetVotes_2 : decode cX2_forgetVotes 2 = .ok (.putfield 65, 3) := by decide +kernel
theorem dX2_forgetVotes_5 : decode cX2_forgetVotes 5 = .ok (.aload_n 0, 1) := by decide +kernel
theorem dX2_forgetVotes_6 : decode cX2_forgetVotes 6 = .ok (.iconst 0, 1) := by decide +kernel
theorem dX2_forgetVotes_7 : decode cX2_forgetVotes 7 = .ok (.putfield 78, 3) := by decide +kernel
theorem dX2_forgetVotes_10 : decode cX2_forgetVotes 10 = .ok (.iconst 0, 1) := by decide +kernel
theorem dX2_forgetVotes_11 : decode cX2_forgetVotes 11 = .ok (.istore_n 1, 1) := by decide +kernel
theorem dX2_forgetVotes_12 : decode cX2_forgetVotes 12 = .ok (.iload_n 1, 1) := by decide +kernel
theorem dX2_forgetVotes_13 : decode cX2_forgetVotes 13 = .ok (.aload_n 0, 1) := by decide +kernel
theorem dX2_forgetVotes_14 : decode cX2_forgetVotes 14 = .ok (.getfield 19, 3) := by decide +kernel
theorem dX2_forgetVotes_17 : decode cX2_forgetVotes 17 = .ok (.if_icmp .ge 16, 3) := by decide +kernel
theorem dX2_forgetVotes_20 : decode cX2_forgetVotes 20 = .ok (.aload_n 0, 1) := by decide +kernel
theorem dX2_forgetVotes_21 : decode cX2_forgetVotes 21 = .ok (.getfield 38, 3) := by decide +kernel
theorem dX2_forgetVotes_24 : decode cX2_forgetVotes 24 = .ok (.iload_n 1, 1) := by decide +kernel
theorem dX2_forgetVotes_25 : decode cX2_forgetVotes 25 = .ok (.aconst_null, 1) := by decide +kernel
theorem dX2_forgetVotes_26 : decode cX2_forgetVotes 26 = .ok (.aastore, 1) := by decide +kernel
theorem dX2_forgetVotes_27 : decode cX2_forgetVotes 27 = .ok (.iinc 1 1, 3) := by decide +kernel
theorem dX2_forgetVotes_30 : decode cX2_forgetVotes 30 = .ok (.goto (-18), 3) := by decide +kernel
theorem dX2_forgetVotes_33 : decode cX2_forgetVotes 33 = .ok (.return_, 1) := by decide +kernel
theorem dX2_forgetTales_0 : decode cX2_forgetTales 0 = .ok (.iconst 0, 1) := by decide +kernel
theorem dX2_forgetTales_1 : decode cX2_forgetTales 1 = .ok (.istore_n 1, 1) := by decide +kernel
theorem dX2_forgetTales_2 : decode cX2_forgetTales 2 = .ok (.iload_n 1, 1) := by decide +kernel
theorem dX2_forgetTales_3 : decode cX2_forgetTales 3 = .ok (.aload_n 0, 1) := by decide +kernel
theorem dX2_forgetTales_4 : decode cX2_forgetTales 4 = .ok (.getfield 19, 3) := by decide +kernel
theorem dX2_forgetTales_7 : decode cX2_forgetTales 7 = .ok (.if_icmp .ge 16, 3) := by decide +kernel
theorem dX2_forgetTales_10 : decode cX2_forgetTales 10 = .ok (.aload_n 0, 1) := by decide +kernel
theorem dX2_forgetTales_11 : decode cX2_forgetTales 11 = .ok (.getfield 42, 3) := by decide +kernel
theorem dX2_forgetTales_14 : decode cX2_forgetTales 14 = .ok (.iload_n 1, 1) := by decide +kernel
theorem dX2_forgetTales_15 : decode cX2_forgetTales 15 = .ok (.aconst_null, 1) := by decide +kernel
theorem dX2_forgetTales_16 : decode cX2_forgetTales 16 = .ok (.aastore, 1) := by decide +kernel
theorem dX2_forgetTales_17 : decode cX2_forgetTales 17 = .ok (.iinc 1 1, 3) := by decide +kernel
theorem dX2_forgetTales_20 : decode cX2_forgetTales 20 = .ok (.goto (-18), 3) := by decide +kernel
theorem dX2_forgetTales_23 : decode cX2_forgetTales 23 = .ok (.return_, 1) := by decide +kernel
theorem dX2_countLetters_0 : decode cX2_countLetters 0 = .ok (.iconst 0, 1) := by decide +kernel
theorem dX2_countLetters_1 : decode cX2_countLetters 1 = .ok (.istore_n 1, 1) := by decide +kernel
theorem dX2_countLetters_2 : decode cX2_countLetters 2 = .ok (.aload_n 0, 1) := by decide +kernel
theorem dX2_countLetters_3 : decode cX2_countLetters 3 = .ok (.astore_n 2, 1) := by decide +kernel
theorem dX2_countLetters_4 : decode cX2_countLetters 4 = .ok (.aload_n 2, 1) := by decide +kernel
theorem dX2_countLetters_5 : decode cX2_countLetters 5 = .ok (.arraylength, 1) := by decide +kernel
theorem dX2_countLetters_6 : decode cX2_countLetters 6 = .ok (.istore_n 3, 1) := by decide +kernel
theorem dX2_countLetters_7 : decode cX2_countLetters 7 = .ok (.iconst 0, 1) := by decide +kernel
theorem dX2_countLetters_8 : decode cX2_countLetters 8 = .ok (.istore 4, 2) := by decide +kernel
theorem dX2_countLetters_10 : decode cX2_countLetters 10 = .ok (.iload 4, 2) := by decide +kernel
theorem dX2_countLetters_12 : decode cX2_countLetters 12 = .ok (.iload_n 3, 1) := by decide +kernel
theorem dX2_countLetters_13 : decode cX2_countLetters 13 = .ok (.if_icmp .ge 28, 3) := by decide +kernel
theorem dX2_countLetters_16 : decode cX2_countLetters 16 = .ok (.aload_n 2, 1) := by decide +kernel
theorem dX2_countLetters_17 : decode cX2_countLetters 17 = .ok (.iload 4, 2) := by decide +kernel
theorem dX2_countLetters_19 : decode cX2_countLetters 19 = .ok (.aaload, 1) := by decide +kernel
theorem dX2_countLetters_20 : decode cX2_countLetters 20 = .ok (.astore 5, 2) := by decide +kernel
theorem dX2_countLetters_22 : decode cX2_countLetters 22 = .ok (.iload_n 1, 1) := by decide +kernel
theorem dX2_countLetters_23 : decode cX2_countLetters 23 = .ok (.aload 5, 2) := by decide +kernel
theorem dX2_countLetters_25 : decode cX2_countLetters 25 = .ok (.ifnonnull 7, 3) := by decide +kernel
theorem dX2_countLetters_28 : decode cX2_countLetters 28 = .ok (.iconst 0, 1) := by decide +kernel
theorem dX2_countLetters_29 : decode cX2_countLetters 29 = .ok (.goto 4, 3) := by decide +kernel
theorem dX2_countLetters_32 : decode cX2_countLetters 32 = .ok (.iconst 1, 1) := by decide +kernel
theorem dX2_countLetters_33 : decode cX2_countLetters 33 = .ok (.iadd, 1) := by decide +kernel
theorem dX2_countLetters_34 : decode cX2_countLetters 34 = .ok (.istore_n 1, 1) := by decide +kernel
theorem dX2_countLetters_35 : decode cX2_countLetters 35 = .ok (.iinc 4 1, 3) := by decide +kernel
theorem dX2_countLetters_38 : decode cX2_countLetters 38 = .ok (.goto (-28), 3) := by decide +kernel
theorem dX2_countLetters_41 : decode cX2_countLetters 41 = .ok (.iload_n 1, 1) := by decide +kernel
theorem dX2_countLetters_42 : decode cX2_countLetters 42 = .ok (.ireturn, 1) := by decide +kernel
