theorem dX5_init_0 : decode cX5_init 0 = .ok (.aload_n 0, 1) := by decide +kernel
theorem dX5_init_1 : decode cX5_init 1 = .ok (.invokespecial 1, 3) := by decide +kernel
theorem dX5_init_4 : decode cX5_init 4 = .ok (.aload_n 0, 1) := by decide +kernel
theorem dX5_init_5 : decode cX5_init 5 = .ok (.sipush 28320, 3) := by decide +kernel
theorem dX5_init_8 : decode cX5_init 8 = .ok (.newarray .int, 2) := by decide +kernel
theorem dX5_init_10 : decode cX5_init 10 = .ok (.putfield 7, 3) := by decide +kernel
theorem dX5_init_13 : decode cX5_init 13 = .ok (.aload_n 0, 1) := by decide +kernel
theorem dX5_init_14 : decode cX5_init 14 = .ok (.sipush 295, 3) := by decide +kernel
theorem dX5_init_17 : decode cX5_init 17 = .ok (.newarray .int, 2) := by decide +kernel
theorem dX5_init_19 : decode cX5_init 19 = .ok (.putfield 13, 3) := by decide +kernel
theorem dX5_init_22 : decode cX5_init 22 = .ok (.aload_n 0, 1) := by decide +kernel
theorem dX5_init_23 : decode cX5_init 23 = .ok (.sipush 295, 3) := by decide +kernel
theorem dX5_init_26 : decode cX5_init 26 = .ok (.newarray .int, 2) := by decide +kernel
theorem dX5_init_28 : decode cX5_init 28 = .ok (.putfield 16, 3) := by decide +kernel
theorem dX5_init_31 : decode cX5_init 31 = .ok (.aload_n 0, 1) := by decide +kernel
theorem dX5_init_32 : decode cX5_init 32 = .ok (.iconst 5, 1) := by decide +kernel
theorem dX5_init_33 : decode cX5_init 33 = .ok (.newarray .int, 2) := by decide +kernel
theorem dX5_init_35 : decode cX5_init 35 = .ok (.putfield 19, 3) := by decide +kernel
theorem dX5_init_38 : decode cX5_init 38 = .ok (.aload_n 0, 1) := by decide +kernel
theorem dX5_init_39 : decode cX5_init 39 = .ok (.iconst 5, 1) := by decide +kernel
theorem dX5_init_40 : decode cX5_init 40 = .ok (.newarray .int, 2) := by decide +kernel
theorem dX5_init_42 : decode cX5_init 42 = .ok (.putfield 22, 3) := by decide +kernel
theorem dX5_init_45 : decode cX5_init 45 = .ok (.aload_n 0, 1) := by decide +kernel
theorem dX5_init_46 : decode cX5_init 46 = .ok (.iconst 5, 1) := by decide +kernel
theorem dX5_init_47 : decode cX5_init 47 = .ok (.newarray .int, 2) := by decide +kernel
theorem dX5_init_49 : decode cX5_init 49 = .ok (.putfield 25, 3) := by decide +kernel
theorem dX5_init_52 : decode cX5_init 52 = .ok (.aload_n 0, 1) := by decide +kernel
theorem dX5_init_53 : decode cX5_init 53 = .ok (.iconst 5, 1) := by decide +kernel
theorem dX5_init_54 : decode cX5_init 54 = .ok (.newarray .boolean, 2) := by decide +kernel
theorem dX5_init_56 : decode cX5_init 56 = .ok (.putfield 28, 3) := by decide +kernel
theorem dX5_init_59 : decode cX5_init 59 = .ok (.aload_n 0, 1) := by decide +kernel
theorem dX5_init_60 : decode cX5_init 60 = .ok (.iconst 5, 1) := by decide +kernel
theorem dX5_init_61 : decode cX5_init 61 = .ok (.newarray .int, 2) := by decide +kernel
theorem dX5_init_63 : decode cX5_init 63 = .ok (.putfield 32, 3) := by decide +kernel
theorem dX5_init_66 : decode cX5_init 66 = .ok (.aload_n 0, 1) := by decide +kernel
theorem dX5_init_67 : decode cX5_init 67 = .ok (.bipush 25, 2) := by decide +kernel
theorem dX5_init_69 : decode cX5_init 69 = .ok (.newarray .int, 2) := by decide +kernel
theorem dX5_init_71 : decode cX5_init 71 = .ok (.putfield 35, 3) := by decide +kernel
theorem dX5_init_74 : decode cX5_init 74 = .ok (.aload_n 0, 1) := by decide +kernel
theorem dX5_init_75 : decode cX5_init 75 = .ok (.bipush 25, 2) := by decide +kernel
theorem dX5_init_77 : decode cX5_init 77 = .ok (.newarray .boolean, 2) := by decide +kernel
theorem dX5_init_79 : decode cX5_init 79 = .ok (.putfield 38, 3) := by decide +kernel
theorem dX5_init_82 : decode cX5_init 82 = .ok (.aload_n 0, 1) := by decide +kernel
theorem dX5_init_83 : decode cX5_init 83 = .ok (.bipush 25, 2) := by decide +kernel
theorem dX5_init_85 : decode cX5_init 85 = .ok (.newarray .boolean, 2) := by decide +kernel
theorem dX5_init_87 : decode cX5_init 87 = .ok (.putfield 41, 3) := by decide +kernel
theorem dX5_init_90 : decode cX5_init 90 = .ok (.aload_n 0, 1) := by decide +kernel
theorem dX5_init_91 : decode cX5_init 91 = .ok (.bipush 25, 2) := by decide +kernel
theorem dX5_init_93 : decode cX5_init 93 = .ok (.newarray .int, 2) := by decide +kernel
theorem dX5_init_95 : decode cX5_init 95 = .ok (.putfield 44, 3) := by decide +kernel
theorem dX5_init_98 : decode cX5_init 98 = .ok (.aload_n 0, 1) := by decide +kernel
theorem dX5_init_99 : decode cX5_init 99 = .ok (.bipush 25, 2) := by decide +kernel
theorem dX5_init_101 : decode cX5_init 101 = .ok (.newarray .boolean, 2) := by decide +kernel
theorem dX5_init_103 : decode cX5_init 103 = .ok (.putfield 47, 3) := by decide +kernel
theorem dX5_init_106 : decode cX5_init 106 = .ok (.aload_n 0, 1) := by decide +kernel
theorem dX5_init_107 : decode cX5_init 107 = .ok (.bipush 25, 2) := by decide +kernel
theorem dX5_init_109 : decode cX5_init 109 = .ok (.newarray .int, 2) := by decide +kernel
theorem dX5_init_111 : decode cX5_init 111 = .ok (.putfield 50, 3) := by decide +kernel
theorem dX5_init_114 : decode cX5_init 114 = .ok (.aload_n 0, 1) := by decide +kernel
theorem dX5_init_115 : decode cX5_init 115 = .ok (.bipush 25, 2) := by decide +kernel
theorem dX5_init_117 : decode cX5_init 117 = .ok (.newarray .boolean, 2) := by decide +kernel
theorem dX5_init_119 : decode cX5_init 119 = .ok (.putfield 53, 3) := by decide +kernel
theorem dX5_init_122 : decode cX5_init 122 = .ok (.aload_n 0, 1) := by decide +kernel
theorem dX5_init_123 : decode cX5_init 123 = .ok (.sipush 240, 3) := by decide +kernel
theorem dX5_init_126 : decode cX5_init 126 = .ok (.newarray .int, 2) := by decide +kernel
theorem dX5_init_128 : decode cX5_init 128 = .ok (.putfield 56, 3) := by decide +kernel
theorem dX5_init_131 : decode cX5_init 131 = .ok (.aload_n 0, 1) := by decide +kernel
theorem dX5_init_132 : decode cX5_init 132 = .ok (.sipush 240, 3) := by decide +kernel
theorem dX5_init_135 : decode cX5_init 135 = .ok (.newarray .int, 2) := by decide +kernel
theorem dX5_init_137 : decode cX5_init 137 = .ok (.putfield 59, 3) := by decide +kernel
theorem dX5_init_140 : decode cX5_init 140 = .ok (.aload_n 0, 1) := by decide +kernel
theorem dX5_init_141 : decode cX5_init 141 = .ok (.sipush 240, 3) := by decide +kernel
theorem dX5_init_144 : decode cX5_init 144 = .ok (.newarray .int, 2) := by decide +kernel
theorem dX5_init_146 : decode cX5_init 146 = .ok (.putfield 62, 3) := by decide +kernel
theorem dX5_init_149 : decode cX5_init 149 = .ok (.aload_n 0, 1) := by decide +kernel
theorem dX5_init_150 : decode cX5_init 150 = .ok (.sipush 240, 3) := by decide +kernel
theorem dX5_init_153 : decode cX5_init 153 = .ok (.newarray .int, 2) := by decide +kernel
theorem dX5_init_155 : decode cX5_init 155 = .ok (.putfield 65, 3) := by decide +kernel
theorem dX5_init_158 : decode cX5_init 158 = .ok (.aload_n 0, 1) := by decide +kernel
theorem dX5_init_159 : decode cX5_init 159 = .ok (.sipush 240, 3) := by decide +kernel
theorem dX5_init_162 : decode cX5_init 162 = .ok (.newarray .int, 2) := by decide +kernel
theorem dX5_init_164 : decode cX5_init 164 = .ok (.putfield 68, 3) := by decide +kernel
theorem dX5_init_167 : decode cX5_init 167 = .ok (.aload_n 0, 1) := by decide +kernel
theorem dX5_init_168 : decode cX5_init 168 = .ok (.sipush 240, 3) := by decide +kernel
theorem dX5_init_171 : decode cX5_init 171 = .ok (.newarray .boolean, 2) := by decide +kernel
theorem dX5_init_173 : decode cX5_init 173 = .ok (.putfield 71, 3) := by decide +kernel
theorem dX5_init_176 : decode cX5_init 176 = .ok (.aload_n 0, 1) := by decide +kernel
theorem dX5_init_177 : decode cX5_init 177 = .ok (.bipush 8, 2) := by decide +kernel
theorem dX5_init_179 : decode cX5_init 179 = .ok (.newarray .int, 2) := by decide +kernel
theorem dX5_init_181 : decode cX5_init 181 = .ok (.putfield 74, 3) := by decide +kernel
theorem dX5_init_184 : decode cX5_init 184 = .ok (.aload_n 0, 1) := by decide +kernel
theorem dX5_init_185 : decode cX5_init 185 = .ok (.iload_n 1, 1) := by decide +kernel
theorem dX5_init_186 : decode cX5_init 186 = .ok (.iconst 5, 1) := by decide +kernel
theorem dX5_init_187 : decode cX5_init 187 = .ok (.if_icmp .ne 7, 3) := by decide +kernel
theorem dX5_init_190 : decode cX5_init 190 = .ok (.iconst 5, 1) := by decide +kernel
theorem dX5_init_191 : decode cX5_init 191 = .ok (.goto 4, 3) := by decide +kernel
theorem dX5_init_194 : decode cX5_init 194 = .ok (.iconst 3, 1) := by decide +kernel
theorem dX5_init_195 : decode cX5_init 195 = .ok (.putfield 77, 3) := by decide +kernel
theorem dX5_init_198 : decode cX5_init 198 = .ok (.aload_n 0, 1) := by decide +kernel
theorem dX5_init_199 : decode cX5_init 199 = .ok (.iload_n 1, 1) := by decide +kernel
theorem dX5_init_200 : decode cX5_init 200 = .ok (.iconst 5, 1) := by decide +kernel
theorem dX5_init_201 : decode cX5_init 201 = .ok (.if_icmp .ne 7, 3) := by decide +kernel
theorem dX5_init_204 : decode cX5_init 204 = .ok (.iconst 2, 1) := by decide +kernel
theorem dX5_init_205 : decode cX5_init 205 = .ok (.goto 4, 3) := by decide +kernel
theorem dX5_init_208 : decode cX5_init 208 = .ok (.iconst 1, 1) := by decide +kernel
theorem dX5_init_209 : decode cX5_init 209 = .ok (.putfield 81, 3) := by decide +kernel
theorem dX5_init_212 : decode cX5_init 212 = .ok (.return_, 1) := by decide +kernel
theorem dX5_in_0 : decode cX5_in 0 = .ok (.iload_n 0, 1) := by decide +kernel
theorem dX5_in_1 : decode cX5_in 1 = .ok (.iload_n 1, 1) := by decide +kernel
theorem dX5_in_2 : decode cX5_in 2 = .ok (.if_icmp .lt 12, 3) := by decide +kernel
theorem dX5_in_5 : decode cX5_in 5 = .ok (.iload_n 0, 1) := by decide +kernel
theorem dX5_in_6 : decode cX5_in 6 = .ok (.iload_n 2, 1) := by decide +kernel
theorem dX5_in_7 : decode cX5_in 7 = .ok (.if_icmp .gt 7, 3) := by decide +kernel
theorem dX5_in_10 : decode cX5_in 10 = .ok (.iconst 1, 1) := by decide +kernel
theorem dX5_in_11 : decode cX5_in 11 = .ok (.goto 4, 3) := by decide +kernel
theorem dX5_in_14 : decode cX5_in 14 = .ok (.iconst 0, 1) := by decide +kernel
theorem dX5_in_15 : decode cX5_in 15 = .ok (.ireturn, 1) := by decide +kernel
set_option maxRecDepth 20000 in
theorem ggX5_isNode_X5_in : GoodIn wsX5_isNode wsX5_in := goodIn_r _ [5] (by decide +kernel) (by decide +kernel)
set_option maxRecDepth 20000 in
theorem gX5_isNode_X5_in : GoodIn wsX5_isNode (va_wsS RX5 84 yX5_in wsX5_in) := goodIn_app (goodIn_of _ (by decide +kernel)) ggX5_isNode_X5_in
theorem dX5_isNode_0 : decode cX5_isNode 0 = .ok (.iload_n 1, 1) := by decide +kernel
theorem dX5_isNode_1 : decode cX5_isNode 1 = .ok (.iconst 0, 1) := by decide +kernel
theorem dX5_isNode_2 : decode cX5_isNode 2 = .ok (.aload_n 0, 1) := by decide +kernel
theorem dX5_isNode_3 : decode cX5_isNode 3 = .ok (.getfield 77, 3) := by decide +kernel
theorem dX5_isNode_6 : decode cX5_isNode 6 = .ok (.iconst 1, 1) := by decide +kernel
theorem dX5_isNode_7 : decode cX5_isNode 7 = .ok (.isub, 1) := by decide +kernel
theorem dX5_isNode_8 : decode cX5_isNode 8 = .ok (.invokestatic 84, 3) := by decide +kernel
theorem dX5_isNode_11 : decode cX5_isNode 11 = .ok (.ireturn, 1) := by decide +kernel
theorem dX5_isFirst_0 : decode cX5_isFirst 0 = .ok (.aload_n 0, 1) := by decide +kernel
theorem dX5_isFirst_1 : decode cX5_isFirst 1 = .ok (.getfield 22, 3) := by decide +kernel
theorem dX5_isFirst_4 : decode cX5_isFirst 4 = .ok (.iload_n 1, 1) := by decide +kernel
theorem dX5_isFirst_5 : decode cX5_isFirst 5 = .ok (.iaload, 1) := by decide +kernel
theorem dX5_isFirst_6 : decode cX5_isFirst 6 = .ok (.aload_n 0, 1) := by decide +kernel
theorem dX5_isFirst_7 : decode cX5_isFirst 7 = .ok (.getfield 77, 3) := by decide +kernel
theorem dX5_isFirst_10 : decode cX5_isFirst 10 = .ok (.irem, 1) := by decide +kernel
theorem dX5_isFirst_11 : decode cX5_isFirst 11 = .ok (.iload_n 1, 1) := by decide +kernel
theorem dX5_isFirst_12 : decode cX5_isFirst 12 = .ok (.if_icmp .ne 7, 3) := by decide +kernel
theorem dX5_isFirst_15 : decode cX5_isFirst 15 = .ok (.iconst 1, 1) := by decide +kernel
theorem dX5_isFirst_16 : decode cX5_isFirst 16 = .ok (.goto 4, 3) := by decide +kernel
theorem dX5_isFirst_19 : decode cX5_isFirst 19 = .ok (.iconst 0, 1) := by decide +kernel
theorem dX5_isFirst_20 : decode cX5_isFirst 20 = .ok (.ireturn, 1) := by decide +kernel
theorem dX5_copyLog_0 : decode cX5_copyLog 0 = .ok (.aload_n 0, 1) := by decide +kernel
theorem dX5_copyLog_1 : decode cX5_copyLog 1 = .ok (.getfield 13, 3) := by decide +kernel
theorem dX5_copyLog_4 : decode cX5_copyLog 4 = .ok (.iload_n 2, 1) := by decide +kernel
theorem dX5_copyLog_5 : decode cX5_copyLog 5 = .ok (.aload_n 0, 1) := by decide +kernel
theorem dX5_copyLog_6 : decode cX5_copyLog 6 = .ok (.getfield 13, 3) := by decide +kernel
theorem dX5_copyLog_9 : decode cX5_copyLog 9 = .ok (.iload_n 1, 1) := by decide +kernel
theorem dX5_copyLog_10 : decode cX5_copyLog 10 = .ok (.iaload, 1) := by decide +kernel
theorem dX5_copyLog_11 : decode cX5_copyLog 11 = .ok (.iastore, 1) := by decide +kernel
theorem dX5_copyLog_12 : decode cX5_copyLog 12 = .ok (.aload_n 0, 1) := by decide +kernel
theorem dX5_copyLog_13 : decode cX5_copyLog 13 = .ok (.getfield 16, 3) := by decide +kernel
theorem dX5_copyLog_16 : decode cX5_copyLog 16 = .ok (.iload_n 2, 1) := by decide +kernel
theorem dX5_copyLog_17 : decode cX5_copyLog 17 = .ok (.aload_n 0, 1) := by decide +kernel
theorem dX5_copyLog_18 : decode cX5_copyLog 18 = .ok (.getfield 16, 3) := by decide +kernel
theorem dX5_copyLog_21 : decode cX5_copyLog 21 = .ok (.iload_n 1, 1) := by decide +kernel
theorem dX5_copyLog_22 : decode cX5_copyLog 22 = .ok (.iaload, 1) := by decide +kernel
theorem dX5_copyLog_23 : decode cX5_copyLog 23 = .ok (.iastore, 1) := by decide +kernel
theorem dX5_copyLog_24 : decode cX5_copyLog 24 = .ok (.iconst 0, 1) := by decide +kernel
theorem dX5_copyLog_25 : decode cX5_copyLog 25 = .ok (.istore_n 3, 1) := by decide +kernel
theorem dX5_copyLog_26 : decode cX5_copyLog 26 = .ok (.iload_n 3, 1) := by decide +kernel
theorem dX5_copyLog_27 : decode cX5_copyLog 27 = .ok (.bipush 96, 2) := by decide +kernel
theorem dX5_copyLog_29 : decode cX5_copyLog 29 = .ok (.if_icmp .ge 31, 3) := by decide +kernel
theorem dX5_copyLog_32 : decode cX5_copyLog 32 = .ok (.aload_n 0, 1) := by decide +kernel
theorem dX5_copyLog_33 : decode cX5_copyLog 33 = .ok (.getfield 7, 3) := by decide +kernel
theorem dX5_copyLog_36 : decode cX5_copyLog 36 = .ok (.bipush 96, 2) := by decide +kernel
theorem dX5_copyLog_38 : decode cX5_copyLog 38 = .ok (.iload_n 2, 1) := by decide +kernel
theorem dX5_copyLog_39 : decode cX5_copyLog 39 = .ok (.imul, 1) := by decide +kernel
theorem dX5_copyLog_40 : decode cX5_copyLog 40 = .ok (.iload_n 3, 1) := by decide +kernel
theorem dX5_copyLog_41 : decode cX5_copyLog 41 = .ok (.iadd, 1) := by decide +kernel
theorem dX5_copyLog_42 : decode cX5_copyLog 42 = .ok (.aload_n 0, 1) := by decide +kernel
theorem dX5_copyLog_43 : decode cX5_copyLog 43 = .ok (.getfield 7, 3) := by decide +kernel
theorem dX5_copyLog_46 : decode cX5_copyLog 46 = .ok (.bipush 96, 2) := by decide +kernel
theorem dX5_copyLog_48 : decode cX5_copyLog 48 = .ok (.iload_n 1, 1) := by decide +kernel
theorem dX5_copyLog_49 : decode cX5_copyLog 49 = .ok (.imul, 1) := by decide +kernel
theorem dX5_copyLog_50 : decode cX5_copyLog 50 = .ok (.iload_n 3, 1) := by decide +kernel
theorem dX5_copyLog_51 : decode cX5_copyLog 51 = .ok (.iadd, 1) := by decide +kernel
theorem dX5_copyLog_52 : decode cX5_copyLog 52 = .ok (.iaload, 1) := by decide +kernel
theorem dX5_copyLog_53 : decode cX5_copyLog 53 = .ok (.iastore, 1) := by decide +kernel
theorem dX5_copyLog_54 : decode cX5_copyLog 54 = .ok (.iinc 3 1, 3) := by decide +kernel
theorem dX5_copyLog_57 : decode cX5_copyLog 57 = .ok (.goto (-31), 3) := by decide +kernel
theorem dX5_copyLog_60 : decode cX5_copyLog 60 = .ok (.return_, 1) := by decide +kernel
theorem dX5_lesser_0 : decode cX5_lesser 0 = .ok (.iload_n 0, 1) := by decide +kernel
theorem dX5_lesser_1 : decode cX5_lesser 1 = .ok (.iload_n 1, 1) := by decide +kernel
theorem dX5_lesser_2 : decode cX5_lesser 2 = .ok (.if_icmp .ge 7, 3) := by decide +kernel
theorem dX5_lesser_5 : decode cX5_lesser 5 = .ok (.iload_n 0, 1) := by decide +kernel
theorem dX5_lesser_6 : decode cX5_lesser 6 = .ok (.goto 4, 3) := by decide +kernel
theorem dX5_lesser_9 : decode cX5_lesser 9 = .ok (.iload_n 1, 1) := by decide +kernel
theorem dX5_lesser_10 : decode cX5_lesser 10 = .ok (.ireturn, 1) := by decide +kernel
theorem dX5_greater_0 : decode cX5_greater 0 = .ok (.iload_n 0, 1) := by decide +kernel
theorem dX5_greater_1 : decode cX5_greater 1 = .ok (.iload_n 1, 1) := by decide +kernel
theorem dX5_greater_2 : decode cX5_greater 2 = .ok (.if_icmp .le 7, 3) := by decide +kernel
theorem dX5_greater_5 : decode cX5_greater 5 = .ok (.iload_n 0, 1) := by decide +kernel
theorem dX5_greater_6 : decode cX5_greater 6 = .ok (.goto 4, 3) := by decide +kernel
theorem dX5_greater_9 : decode cX5_greater 9 = .ok (.iload_n 1, 1) := by decide +kernel
theorem dX5_greater_10 : decode cX5_greater 10 = .ok (.ireturn, 1) := by decide +kernel
theorem dX5_hasLog_0 : decode cX5_hasLog 0 = .ok (.iload_n 0, 1) := by decide +kernel
theorem dX5_hasLog_1 : decode cX5_hasLog 1 = .ok (.iconst 1, 1) := by decide +kernel
theorem dX5_hasLog_2 : decode cX5_hasLog 2 = .ok (.if_icmp .eq 19, 3) := by decide +kernel
theorem dX5_hasLog_5 : decode cX5_hasLog 5 = .ok (.iload_n 0, 1) := by decide +kernel
theorem dX5_hasLog_6 : decode cX5_hasLog 6 = .ok (.iconst 4, 1) := by decide +kernel
theorem dX5_hasLog_7 : decode cX5_hasLog 7 = .ok (.if_icmp .eq 14, 3) := by decide +kernel
theorem dX5_hasLog_10 : decode cX5_hasLog 10 = .ok (.iload_n 0, 1) := by decide +kernel
theorem dX5_hasLog_11 : decode cX5_hasLog 11 = .ok (.iconst 5, 1) := by decide +kernel
theorem dX5_hasLog_12 : decode cX5_hasLog 12 = .ok (.if_icmp .eq 9, 3) := by decide +kernel
theorem dX5_hasLog_15 : decode cX5_hasLog 15 = .ok (.iload_n 0, 1) := by decide +kernel
theorem dX5_hasLog_16 : decode cX5_hasLog 16 = .ok (.bipush 7, 2) := by decide +kernel
theorem dX5_hasLog_18 : decode cX5_hasLog 18 = .ok (.if_icmp .ne 7, 3) := by decide +kernel
theorem dX5_hasLog_21 : decode cX5_hasLog 21 = .ok (.iconst 1, 1) := by decide +kernel
theorem dX5_hasLog_22 : decode cX5_hasLog 22 = .ok (.goto 4, 3) := by decide +kernel
theorem dX5_hasLog_25 : decode cX5_hasLog 25 = .ok (.iconst 0, 1) := by decide +kernel
theorem dX5_hasLog_26 : decode cX5_hasLog 26 = .ok (.ireturn, 1) := by decide +kernel
set_option maxRecDepth 20000 in
theorem ggX5_post_X5_hasLog : GoodIn wsX5_post wsX5_hasLog := goodIn_r _ [11] (by decide +kernel) (by decide +kernel)
set_option maxRecDepth 20000 in
theorem gX5_post_X5_hasLog : GoodIn wsX5_post (va_wsS RX5 94 yX5_hasLog wsX5_hasLog) := goodIn_app (goodIn_of _ (by decide +kernel)) ggX5_post_X5_hasLog
set_option maxRecDepth 20000 in
theorem ggX5_post_X5_copyLog : GoodIn wsX5_post wsX5_copyLog := goodIn_r _ [15, 16, 17, 18, 19, 20, 21, 22, 23, 24, 25, 26, 27, 28, 29, 30, 31, 32, 33, 34, 35, 36, 37, 38, 39, 40, 41, 42, 43, 44] (by decide +kernel) (by decide +kernel)
set_option maxRecDepth 20000 in
theorem gX5_post_X5_copyLog : GoodIn wsX5_post (wsV RX5 98 RX5 yX5_copyLog wsX5_copyLog) := goodIn_app (goodIn_of _ (by decide +kernel)) ggX5_post_X5_copyLog
theorem dX5_post_0 : decode cX5_post 0 = .ok (.aload_n 0, 1) := by decide +kernel
theorem dX5_post_1 : decode cX5_post 1 = .ok (.getfield 88, 3) := by decide +kernel
theorem dX5_post_4 : decode cX5_post 4 = .ok (.sipush 240, 3) := by decide +kernel
theorem dX5_post_7 : decode cX5_post 7 = .ok (.if_icmp .ne 14, 3) := by decide +kernel
theorem dX5_post_10 : decode cX5_post 10 = .ok (.aload_n 0, 1) := by decide +kernel
theorem dX5_post_11 : decode cX5_post 11 = .ok (.dup, 1) := by decide +kernel
theorem dX5_post_12 : decode cX5_post 12 = .ok (.getfield 91, 3) := by decide +kernel
theorem dX5_post_15 : decode cX5_post 15 = .ok (.iconst 1, 1) := by decide +kernel
theorem dX5_post_16 : decode cX5_post 16 = .ok (.iadd, 1) := by decide +kernel
theorem dX5_post_17 : decode cX5_post 17 = .ok (.putfield 91, 3) := by decide +kernel
theorem dX5_post_20 : decode cX5_post 20 = .ok (.return_, 1) := by decide +kernel
theorem dX5_post_21 : decode cX5_post 21 = .ok (.aload_n 0, 1) := by decide +kernel
theorem dX5_post_22 : decode cX5_post 22 = .ok (.getfield 56, 3) := by decide +kernel
theorem dX5_post_25 : decode cX5_post 25 = .ok (.aload_n 0, 1) := by decide +kernel
theorem dX5_post_26 : decode cX5_post 26 = .ok (.getfield 88, 3) := by decide +kernel
theorem dX5_post_29 : decode cX5_post 29 = .ok (.iload_n 1, 1) := by decide +kernel
theorem dX5_post_30 : decode cX5_post 30 = .ok (.iastore, 1) := by decide +kernel
theorem dX5_post_31 : decode cX5_post 31 = .ok (.aload_n 0, 1) := by decide +kernel
theorem dX5_post_32 : decode cX5_post 32 = .ok (.getfield 59, 3) := by decide +kernel
theorem dX5_post_35 : decode cX5_post 35 = .ok (.aload_n 0, 1) := by decide +kernel
theorem dX5_post_36 : decode cX5_post 36 = .ok (.getfield 88, 3) := by decide +kernel
theorem dX5_post_39 : decode cX5_post 39 = .ok (.iload_n 2, 1) := by decide +kernel
theorem dX5_post_40 : decode cX5_post 40 = .ok (.iastore, 1) := by decide +kernel
theorem dX5_post_41 : decode cX5_post 41 = .ok (.aload_n 0, 1) := by decide +kernel
theorem dX5_post_42 : decode cX5_post 42 = .ok (.getfield 62, 3) := by decide +kernel
theorem dX5_post_45 : decode cX5_post 45 = .ok (.aload_n 0, 1) := by decide +kernel
theorem dX5_post_46 : decode cX5_post 46 = .ok (.getfield 88, 3) := by decide +kernel
theorem dX5_post_49 : decode cX5_post 49 = .ok (.iload_n 3, 1) := by decide +kernel
theorem dX5_post_50 : decode cX5_post 50 = .ok (.iastore, 1) := by decide +kernel
theorem dX5_post_51 : decode cX5_post 51 = .ok (.aload_n 0, 1) := by decide +kernel
theorem dX5_post_52 : decode cX5_post 52 = .ok (.getfield 65, 3) := by decide +kernel
theorem dX5_post_55 : decode cX5_post 55 = .ok (.aload_n 0, 1) := by decide +kernel
theorem dX5_post_56 : decode cX5_post 56 = .ok (.getfield 88, 3) := by decide +kernel
theorem dX5_post_59 : decode cX5_post 59 = .ok (.iload 4, 2) := by decide +kernel
theorem dX5_post_61 : decode cX5_post 61 = .ok (.iastore, 1) := by decide +kernel
theorem dX5_post_62 : decode cX5_post 62 = .ok (.aload_n 0, 1) := by decide +kernel
theorem dX5_post_63 : decode cX5_post 63 = .ok (.getfield 68, 3) := by decide +kernel
theorem dX5_post_66 : decode cX5_post 66 = .ok (.aload_n 0, 1) := by decide +kernel
theorem dX5_post_67 : decode cX5_post 67 = .ok (.getfield 88, 3) := by decide +kernel
theorem dX5_post_70 : decode cX5_post 70 = .ok (.iload 5, 2) := by decide +kernel
theorem dX5_post_72 : decode cX5_post 72 = .ok (.iastore, 1) := by decide +kernel
theorem dX5_post_73 : decode cX5_post 73 = .ok (.iload_n 3, 1) := by decide +kernel
theorem dX5_post_74 : decode cX5_post 74 = .ok (.invokestatic 94, 3) := by decide +kernel
theorem dX5_post_77 : decode cX5_post 77 = .ok (.ifCond .eq 15, 3) := by decide +kernel
theorem dX5_post_80 : decode cX5_post 80 = .ok (.aload_n 0, 1) := by decide +kernel
theorem dX5_post_81 : decode cX5_post 81 = .ok (.iload_n 1, 1) := by decide +kernel
theorem dX5_post_82 : decode cX5_post 82 = .ok (.bipush 55, 2) := by decide +kernel
theorem dX5_post_84 : decode cX5_post 84 = .ok (.aload_n 0, 1) := by decide +kernel
theorem dX5_post_85 : decode cX5_post 85 = .ok (.getfield 88, 3) := by decide +kernel
theorem dX5_post_88 : decode cX5_post 88 = .ok (.iadd, 1) := by decide +kernel
theorem dX5_post_89 : decode cX5_post 89 = .ok (.invokevirtual 98, 3) := by decide +kernel
theorem dX5_post_92 : decode cX5_post 92 = .ok (.aload_n 0, 1) := by decide +kernel
theorem dX5_post_93 : decode cX5_post 93 = .ok (.dup, 1) := by decide +kernel
theorem dX5_post_94 : decode cX5_post 94 = .ok (.getfield 88, 3) := by decide +kernel
theorem dX5_post_97 : decode cX5_post 97 = .ok (.iconst 1, 1) := by decide +kernel
theorem dX5_post_98 : decode cX5_post 98 = .ok (.iadd, 1) := by decide +kernel
theorem dX5_post_99 : decode cX5_post 99 = .ok (.putfield 88, 3) := by decide +kernel
theorem dX5_post_102 : decode cX5_post 102 = .ok (.return_, 1) := by decide +kernel
set_option maxRecDepth 20000 in
theorem ggX5_postAll_X5_post : GoodIn wsX5_postAll wsX5_post := goodIn_r _ [6, 7, 8, 9, 10, 11, 12, 13, 14, 15, 5, 16, 17, 18, 19, 20, 21, 22, 23, 24, 25, 26, 27, 28, 29, 30, 31, 32, 33, 34, 35, 36, 37, 38, 39, 40, 41, 42, 43, 44, 45, 46, 47, 48, 49] (by decide +kernel) (by decide +kernel)
set_option maxRecDepth 20000 in
theorem gX5_postAll_X5_post : GoodIn wsX5_postAll (wsV RX5 102 RX5 yX5_post wsX5_post) := goodIn_app (goodIn_of _ (by decide +kernel)) ggX5_postAll_X5_post
theorem dX5_postAll_0 : decode cX5_postAll 0 = .ok (.iconst 0, 1) := by decide +kernel
theorem dX5_postAll_1 : decode cX5_postAll 1 = .ok (.istore 5, 2) := by decide +kernel
theorem dX5_postAll_3 : decode cX5_postAll 3 = .ok (.iload 5, 2) := by decide +kernel
theorem dX5_postAll_5 : decode cX5_postAll 5 = .ok (.aload_n 0, 1) := by decide +kernel
theorem dX5_postAll_6 : decode cX5_postAll 6 = .ok (.getfield 77, 3) := by decide +kernel
theorem dX5_postAll_9 : decode cX5_postAll 9 = .ok (.if_icmp .ge 26, 3) := by decide +kernel
theorem dX5_postAll_12 : decode cX5_postAll 12 = .ok (.iload 5, 2) := by decide +kernel
theorem dX5_postAll_14 : decode cX5_postAll 14 = .ok (.iload_n 1, 1) := by decide +kernel
theorem dX5_postAll_15 : decode cX5_postAll 15 = .ok (.if_icmp .eq 14, 3) := by decide +kernel
theorem dX5_postAll_18 : decode cX5_postAll 18 = .ok (.aload_n 0, 1) := by decide +kernel
theorem dX5_postAll_19 : decode cX5_postAll 19 = .ok (.iload_n 1, 1) := by decide +kernel
theorem dX5_postAll_20 : decode cX5_postAll 20 = .ok (.iload 5, 2) := by decide +kernel
theorem dX5_postAll_22 : decode cX5_postAll 22 = .ok (.iload_n 2, 1) := by decide +kernel
theorem dX5_postAll_23 : decode cX5_postAll 23 = .ok (.iload_n 3, 1) := by decide +kernel
theorem dX5_postAll_24 : decode cX5_postAll 24 = .ok (.iload 4, 2) := by decide +kernel
theorem dX5_postAll_26 : decode cX5_postAll 26 = .ok (.invokevirtual 102, 3) := by decide +kernel
theorem dX5_postAll_29 : decode cX5_postAll 29 = .ok (.iinc 5 1, 3) := by decide +kernel
theorem dX5_postAll_32 : decode cX5_postAll 32 = .ok (.goto (-29), 3) := by decide +kernel
theorem dX5_postAll_35 : decode cX5_postAll 35 = .ok (.aload_n 0, 1) := by decide +kernel
theorem dX5_postAll_36 : decode cX5_postAll 36 = .ok (.getfield 77, 3) := by decide +kernel
theorem dX5_postAll_39 : decode cX5_postAll 39 = .ok (.iconst 1, 1) := by decide +kernel
theorem dX5_postAll_40 : decode cX5_postAll 40 = .ok (.isub, 1) := by decide +kernel
theorem dX5_postAll_41 : decode cX5_postAll 41 = .ok (.ireturn, 1) := by decide +kernel
set_option maxRecDepth 20000 in
theorem ggX5_postOk_X5_post : GoodIn wsX5_postOk wsX5_post := goodIn_r _ [8, 9, 10, 11, 12, 13, 14, 15, 16, 17, 7, 18, 19, 20, 21, 22, 3, 23, 24, 25, 26, 27, 28, 29, 30, 31, 32, 33, 34, 35, 36, 37, 38, 39, 40, 41, 42, 43, 44, 45, 46, 47, 48, 49, 50] (by decide +kernel) (by decide +kernel)
set_option maxRecDepth 20000 in
theorem gX5_postOk_X5_post : GoodIn wsX5_postOk (wsV RX5 102 RX5 yX5_post wsX5_post) := goodIn_app (goodIn_of _ (by decide +kernel)) ggX5_postOk_X5_post
theorem dX5_postOk_0 : decode cX5_postOk 0 = .ok (.aload_n 0, 1) := by decide +kernel
theorem dX5_postOk_1 : decode cX5_postOk 1 = .ok (.iload_n 1, 1) := by decide +kernel
theorem dX5_postOk_2 : decode cX5_postOk 2 = .ok (.aload_n 0, 1) := by decide +kernel
theorem dX5_postOk_3 : decode cX5_postOk 3 = .ok (.getfield 22, 3) := by decide +kernel
theorem dX5_postOk_6 : decode cX5_postOk 6 = .ok (.iload_n 1, 1) := by decide +kernel
theorem dX5_postOk_7 : decode cX5_postOk 7 = .ok (.iaload, 1) := by decide +kernel
theorem dX5_postOk_8 : decode cX5_postOk 8 = .ok (.aload_n 0, 1) := by decide +kernel
theorem dX5_postOk_9 : decode cX5_postOk 9 = .ok (.getfield 77, 3) := by decide +kernel
theorem dX5_postOk_12 : decode cX5_postOk 12 = .ok (.irem, 1) := by decide +kernel
theorem dX5_postOk_13 : decode cX5_postOk 13 = .ok (.iconst 2, 1) := by decide +kernel
theorem dX5_postOk_14 : decode cX5_postOk 14 = .ok (.aload_n 0, 1) := by decide +kernel
theorem dX5_postOk_15 : decode cX5_postOk 15 = .ok (.getfield 22, 3) := by decide +kernel
theorem dX5_postOk_18 : decode cX5_postOk 18 = .ok (.iload_n 1, 1) := by decide +kernel
theorem dX5_postOk_19 : decode cX5_postOk 19 = .ok (.iaload, 1) := by decide +kernel
theorem dX5_postOk_20 : decode cX5_postOk 20 = .ok (.aload_n 0, 1) := by decide +kernel
theorem dX5_postOk_21 : decode cX5_postOk 21 = .ok (.getfield 13, 3) := by decide +kernel
theorem dX5_postOk_24 : decode cX5_postOk 24 = .ok (.iload_n 1, 1) := by decide +kernel
theorem dX5_postOk_25 : decode cX5_postOk 25 = .ok (.iaload, 1) := by decide +kernel
theorem dX5_postOk_26 : decode cX5_postOk 26 = .ok (.invokevirtual 102, 3) := by decide +kernel
theorem dX5_postOk_29 : decode cX5_postOk 29 = .ok (.return_, 1) := by decide +kernel
set_option maxRecDepth 20000 in
theorem ggX5_havingAs_X5_copyLog : GoodIn wsX5_havingAs wsX5_copyLog := goodIn_r _ [10, 2, 1, 11, 37, 38, 39, 40, 41, 42, 43, 44, 45, 46, 47, 48, 49, 50, 51, 52, 53, 54, 55, 56, 57, 58, 59, 60, 61, 62] (by decide +kernel) (by decide +kernel)
set_option maxRecDepth 20000 in
theorem gX5_havingAs_X5_copyLog : GoodIn wsX5_havingAs (wsV RX5 98 RX5 yX5_copyLog wsX5_copyLog) := goodIn_app (goodIn_of _ (by decide +kernel)) ggX5_havingAs_X5_copyLog
set_option maxRecDepth 20000 in
theorem ggX5_havingAs_X5_greater : GoodIn wsX5_havingAs wsX5_greater := goodIn_r _ [14] (by decide +kernel) (by decide +kernel)
set_option maxRecDepth 20000 in
theorem gX5_havingAs_X5_greater : GoodIn wsX5_havingAs (va_wsS RX5 106 yX5_greater wsX5_greater) := goodIn_app (goodIn_of _ (by decide +kernel)) ggX5_havingAs_X5_greater
set_option maxRecDepth 20000 in
theorem ggX5_havingAs_X5_lesser : GoodIn wsX5_havingAs wsX5_lesser := goodIn_r _ [17] (by decide +kernel) (by decide +kernel)
set_option maxRecDepth 20000 in
theorem gX5_havingAs_X5_lesser : GoodIn wsX5_havingAs (va_wsS RX5 110 yX5_lesser wsX5_lesser) := goodIn_app (goodIn_of _ (by decide +kernel)) ggX5_havingAs_X5_lesser
set_option maxRecDepth 20000 in
theorem ggX5_havingAs_X5_postOk : GoodIn wsX5_havingAs wsX5_postOk := goodIn_r _ [21, 3, 22, 2, 23, 24, 25, 9, 26, 27, 28, 29, 30, 31, 32, 33, 34, 35, 36, 6, 7, 8, 10, 1, 11, 37, 38, 39, 40, 41, 42, 43, 44, 45, 46, 47, 48, 49, 50, 51, 52, 53, 54, 55, 56, 57, 58, 59, 60, 61, 62] (by decide +kernel) (by decide +kernel)
set_option maxRecDepth 20000 in
theorem gX5_havingAs_X5_postOk : GoodIn wsX5_havingAs (wsV RX5 113 RX5 yX5_postOk wsX5_postOk) := goodIn_app (goodIn_of _ (by decide +kernel)) ggX5_havingAs_X5_postOk
theorem dX5_havingAs_0 : decode cX5_havingAs 0 = .ok (.aload_n 0, 1) := by decide +kernel
theorem dX5_havingAs_1 : decode cX5_havingAs 1 = .ok (.getfield 16, 3) := by decide +kernel
theorem dX5_havingAs_4 : decode cX5_havingAs 4 = .ok (.iload_n 1, 1) := by decide +kernel
theorem dX5_havingAs_5 : decode cX5_havingAs 5 = .ok (.iaload, 1) := by decide +kernel
theorem dX5_havingAs_6 : decode cX5_havingAs 6 = .ok (.istore 4, 2) := by decide +kernel
theorem dX5_havingAs_8 : decode cX5_havingAs 8 = .ok (.aload_n 0, 1) := by decide +kernel
theorem dX5_havingAs_9 : decode cX5_havingAs 9 = .ok (.iload_n 2, 1) := by decide +kernel
theorem dX5_havingAs_10 : decode cX5_havingAs 10 = .ok (.iload_n 1, 1) := by decide +kernel
theorem dX5_havingAs_11 : decode cX5_havingAs 11 = .ok (.invokevirtual 98, 3) := by decide +kernel
theorem dX5_havingAs_14 : decode cX5_havingAs 14 = .ok (.aload_n 0, 1) := by decide +kernel
theorem dX5_havingAs_15 : decode cX5_havingAs 15 = .ok (.getfield 16, 3) := by decide +kernel
theorem dX5_havingAs_18 : decode cX5_havingAs 18 = .ok (.iload_n 1, 1) := by decide +kernel
theorem dX5_havingAs_19 : decode cX5_havingAs 19 = .ok (.iload 4, 2) := by decide +kernel
theorem dX5_havingAs_21 : decode cX5_havingAs 21 = .ok (.aload_n 0, 1) := by decide +kernel
theorem dX5_havingAs_22 : decode cX5_havingAs 22 = .ok (.getfield 16, 3) := by decide +kernel
theorem dX5_havingAs_25 : decode cX5_havingAs 25 = .ok (.iload_n 2, 1) := by decide +kernel
theorem dX5_havingAs_26 : decode cX5_havingAs 26 = .ok (.iaload, 1) := by decide +kernel
theorem dX5_havingAs_27 : decode cX5_havingAs 27 = .ok (.invokestatic 106, 3) := by decide +kernel
theorem dX5_havingAs_30 : decode cX5_havingAs 30 = .ok (.aload_n 0, 1) := by decide +kernel
theorem dX5_havingAs_31 : decode cX5_havingAs 31 = .ok (.getfield 13, 3) := by decide +kernel
theorem dX5_havingAs_34 : decode cX5_havingAs 34 = .ok (.iload_n 1, 1) := by decide +kernel
theorem dX5_havingAs_35 : decode cX5_havingAs 35 = .ok (.iaload, 1) := by decide +kernel
theorem dX5_havingAs_36 : decode cX5_havingAs 36 = .ok (.invokestatic 110, 3) := by decide +kernel
theorem dX5_havingAs_39 : decode cX5_havingAs 39 = .ok (.iastore, 1) := by decide +kernel
theorem dX5_havingAs_40 : decode cX5_havingAs 40 = .ok (.aload_n 0, 1) := by decide +kernel
theorem dX5_havingAs_41 : decode cX5_havingAs 41 = .ok (.getfield 22, 3) := by decide +kernel
theorem dX5_havingAs_44 : decode cX5_havingAs 44 = .ok (.iload_n 1, 1) := by decide +kernel
theorem dX5_havingAs_45 : decode cX5_havingAs 45 = .ok (.iload_n 3, 1) := by decide +kernel
theorem dX5_havingAs_46 : decode cX5_havingAs 46 = .ok (.iastore, 1) := by decide +kernel
theorem dX5_havingAs_47 : decode cX5_havingAs 47 = .ok (.aload_n 0, 1) := by decide +kernel
theorem dX5_havingAs_48 : decode cX5_havingAs 48 = .ok (.getfield 25, 3) := by decide +kernel
theorem dX5_havingAs_51 : decode cX5_havingAs 51 = .ok (.iload_n 1, 1) := by decide +kernel
theorem dX5_havingAs_52 : decode cX5_havingAs 52 = .ok (.iload_n 3, 1) := by decide +kernel
theorem dX5_havingAs_53 : decode cX5_havingAs 53 = .ok (.iastore, 1) := by decide +kernel
theorem dX5_havingAs_54 : decode cX5_havingAs 54 = .ok (.aload_n 0, 1) := by decide +kernel
theorem dX5_havingAs_55 : decode cX5_havingAs 55 = .ok (.getfield 19, 3) := by decide +kernel
theorem dX5_havingAs_58 : decode cX5_havingAs 58 = .ok (.iload_n 1, 1) := by decide +kernel
theorem dX5_havingAs_59 : decode cX5_havingAs 59 = .ok (.iconst 0, 1) := by decide +kernel
theorem dX5_havingAs_60 : decode cX5_havingAs 60 = .ok (.iastore, 1) := by decide +kernel
theorem dX5_havingAs_61 : decode cX5_havingAs 61 = .ok (.aload_n 0, 1) := by decide +kernel
theorem dX5_havingAs_62 : decode cX5_havingAs 62 = .ok (.iload_n 1, 1) := by decide +kernel
theorem dX5_havingAs_63 : decode cX5_havingAs 63 = .ok (.invokevirtual 113, 3) := by decide +kernel
theorem dX5_havingAs_66 : decode cX5_havingAs 66 = .ok (.return_, 1) := by decide +kernel
set_option maxRecDepth 20000 in
theorem ggX5_prepares_X5_havingAs : GoodIn wsX5_prepares wsX5_havingAs := goodIn_r _ [9, 3, 4, 1, 10, 2, 11, 12, 13, 8, 14, 15, 16, 17, 18, 19, 20, 21, 22, 23, 24, 25, 26, 27, 28, 29, 30, 31, 32, 33, 34, 35, 36, 37, 38, 39, 40, 45, 46, 47, 48, 49, 50, 51, 52, 53, 54, 55, 56, 57, 58, 59, 60, 61, 62, 63, 64, 65, 66, 67, 68, 69, 70] (by decide +kernel) (by decide +kernel)
set_option maxRecDepth 20000 in
theorem gX5_prepares_X5_havingAs : GoodIn wsX5_prepares (wsV RX5 117 RX5 yX5_havingAs wsX5_havingAs) := goodIn_app (goodIn_of _ (by decide +kernel)) ggX5_prepares_X5_havingAs
set_option maxRecDepth 20000 in
theorem ggX5_prepares_X5_isFirst : GoodIn wsX5_prepares wsX5_isFirst := goodIn_r _ [44, 1, 26, 45, 46, 47, 48, 49, 50, 51, 52, 53, 54, 55, 56, 57, 58, 59, 60, 61, 62, 63, 64, 65, 66, 67, 68, 69, 70] (by decide +kernel) (by decide +kernel)
set_option maxRecDepth 20000 in
theorem gX5_prepares_X5_isFirst : GoodIn wsX5_prepares (wsV RX5 121 RX5 yX5_isFirst wsX5_isFirst) := goodIn_app (goodIn_of _ (by decide +kernel)) ggX5_prepares_X5_isFirst
set_option maxRecDepth 20000 in
theorem ggX5_prepares_X5_copyLog : GoodIn wsX5_prepares wsX5_copyLog := goodIn_r _ [14, 4, 3, 15, 45, 46, 47, 48, 49, 50, 51, 52, 53, 54, 55, 56, 57, 58, 59, 60, 61, 62, 63, 64, 65, 66, 67, 68, 69, 70] (by decide +kernel) (by decide +kernel)
set_option maxRecDepth 20000 in
theorem gX5_prepares_X5_copyLog : GoodIn wsX5_prepares (wsV RX5 98 RX5 yX5_copyLog wsX5_copyLog) := goodIn_app (goodIn_of _ (by decide +kernel)) ggX5_prepares_X5_copyLog
set_option maxRecDepth 20000 in
theorem ggX5_prepares_X5_greater : GoodIn wsX5_prepares wsX5_greater := goodIn_r _ [18] (by decide +kernel) (by decide +kernel)
set_option maxRecDepth 20000 in
theorem gX5_prepares_X5_greater : GoodIn wsX5_prepares (va_wsS RX5 106 yX5_greater wsX5_greater) := goodIn_app (goodIn_of _ (by decide +kernel)) ggX5_prepares_X5_greater
set_option maxRecDepth 20000 in
theorem ggX5_prepares_X5_lesser : GoodIn wsX5_prepares wsX5_lesser := goodIn_r _ [21] (by decide +kernel) (by decide +kernel)
set_option maxRecDepth 20000 in
theorem gX5_prepares_X5_lesser : GoodIn wsX5_prepares (va_wsS RX5 110 yX5_lesser wsX5_lesser) := goodIn_app (goodIn_of _ (by decide +kernel)) ggX5_prepares_X5_lesser
set_option maxRecDepth 20000 in
theorem ggX5_prepares_X5_postOk : GoodIn wsX5_prepares wsX5_postOk := goodIn_r _ [25, 1, 26, 4, 27, 28, 29, 8, 30, 31, 32, 33, 34, 35, 36, 37, 38, 39, 40, 11, 12, 13, 14, 3, 15, 45, 46, 47, 48, 49, 50, 51, 52, 53, 54, 55, 56, 57, 58, 59, 60, 61, 62, 63, 64, 65, 66, 67, 68, 69, 70] (by decide +kernel) (by decide +kernel)
set_option maxRecDepth 20000 in
theorem gX5_prepares_X5_postOk : GoodIn wsX5_prepares (wsV RX5 113 RX5 yX5_postOk wsX5_postOk) := goodIn_app (goodIn_of _ (by decide +kernel)) ggX5_prepares_X5_postOk
theorem dX5_prepares_0 : decode cX5_prepares 0 = .ok (.aload_n 0, 1) := by decide +kernel
theorem dX5_prepares_1 : decode cX5_prepares 1 = .ok (.getfield 22, 3) := by decide +kernel
theorem dX5_prepares_4 : decode cX5_prepares 4 = .ok (.iload_n 1, 1) := by decide +kernel
theorem dX5_prepares_5 : decode cX5_prepares 5 = .ok (.iaload, 1) := by decide +kernel
theorem dX5_prepares_6 : decode cX5_prepares 6 = .ok (.iload_n 3, 1) := by decide +kernel
theorem dX5_prepares_7 : decode cX5_prepares 7 = .ok (.if_icmp .lt 13, 3) := by decide +kernel
theorem dX5_prepares_10 : decode cX5_prepares 10 = .ok (.aload_n 0, 1) := by decide +kernel
theorem dX5_prepares_11 : decode cX5_prepares 11 = .ok (.getfield 19, 3) := by decide +kernel
theorem dX5_prepares_14 : decode cX5_prepares 14 = .ok (.iload_n 1, 1) := by decide +kernel
theorem dX5_prepares_15 : decode cX5_prepares 15 = .ok (.iaload, 1) := by decide +kernel
theorem dX5_prepares_16 : decode cX5_prepares 16 = .ok (.iconst 1, 1) := by decide +kernel
theorem dX5_prepares_17 : decode cX5_prepares 17 = .ok (.if_icmp .ne 12, 3) := by decide +kernel
theorem dX5_prepares_20 : decode cX5_prepares 20 = .ok (.aload_n 0, 1) := by decide +kernel
theorem dX5_prepares_21 : decode cX5_prepares 21 = .ok (.iload_n 1, 1) := by decide +kernel
theorem dX5_prepares_22 : decode cX5_prepares 22 = .ok (.iload_n 2, 1) := by decide +kernel
theorem dX5_prepares_23 : decode cX5_prepares 23 = .ok (.iload_n 3, 1) := by decide +kernel
theorem dX5_prepares_24 : decode cX5_prepares 24 = .ok (.invokevirtual 117, 3) := by decide +kernel
theorem dX5_prepares_27 : decode cX5_prepares 27 = .ok (.iconst 1, 1) := by decide +kernel
theorem dX5_prepares_28 : decode cX5_prepares 28 = .ok (.ireturn, 1) := by decide +kernel
theorem dX5_prepares_29 : decode cX5_prepares 29 = .ok (.aload_n 0, 1) := by decide +kernel
theorem dX5_prepares_30 : decode cX5_prepares 30 = .ok (.iload_n 1, 1) := by decide +kernel
theorem dX5_prepares_31 : decode cX5_prepares 31 = .ok (.invokevirtual 121, 3) := by decide +kernel
theorem dX5_prepares_34 : decode cX5_prepares 34 = .ok (.ifCond .eq 5, 3) := by decide +kernel
theorem dX5_prepares_37 : decode cX5_prepares 37 = .ok (.iconst 0, 1) := by decide +kernel
theorem dX5_prepares_38 : decode cX5_prepares 38 = .ok (.ireturn, 1) := by decide +kernel
theorem dX5_prepares_39 : decode cX5_prepares 39 = .ok (.aload_n 0, 1) := by decide +kernel
theorem dX5_prepares_40 : decode cX5_prepares 40 = .ok (.getfield 16, 3) := by decide +kernel
theorem dX5_prepares_43 : decode cX5_prepares 43 = .ok (.iload_n 1, 1) := by decide +kernel
theorem dX5_prepares_44 : decode cX5_prepares 44 = .ok (.iaload, 1) := by decide +kernel
theorem dX5_prepares_45 : decode cX5_prepares 45 = .ok (.istore 4, 2) := by decide +kernel
theorem dX5_prepares_47 : decode cX5_prepares 47 = .ok (.aload_n 0, 1) := by decide +kernel
theorem dX5_prepares_48 : decode cX5_prepares 48 = .ok (.getfield 16, 3) := by decide +kernel
theorem dX5_prepares_51 : decode cX5_prepares 51 = .ok (.iload_n 2, 1) := by decide +kernel
theorem dX5_prepares_52 : decode cX5_prepares 52 = .ok (.iaload, 1) := by decide +kernel
theorem dX5_prepares_53 : decode cX5_prepares 53 = .ok (.istore 5, 2) := by decide +kernel
theorem dX5_prepares_55 : decode cX5_prepares 55 = .ok (.aload_n 0, 1) := by decide +kernel
theorem dX5_prepares_56 : decode cX5_prepares 56 = .ok (.getfield 13, 3) := by decide +kernel
theorem dX5_prepares_59 : decode cX5_prepares 59 = .ok (.iload_n 2, 1) := by decide +kernel
theorem dX5_prepares_60 : decode cX5_prepares 60 = .ok (.iaload, 1) := by decide +kernel
theorem dX5_prepares_61 : decode cX5_prepares 61 = .ok (.aload_n 0, 1) := by decide +kernel
theorem dX5_prepares_62 : decode cX5_prepares 62 = .ok (.getfield 13, 3) := by decide +kernel
theorem dX5_prepares_65 : decode cX5_prepares 65 = .ok (.iload_n 1, 1) := by decide +kernel
theorem dX5_prepares_66 : decode cX5_prepares 66 = .ok (.iaload, 1) := by decide +kernel
theorem dX5_prepares_67 : decode cX5_prepares 67 = .ok (.if_icmp .le 9, 3) := by decide +kernel
theorem dX5_prepares_70 : decode cX5_prepares 70 = .ok (.aload_n 0, 1) := by decide +kernel
theorem dX5_prepares_71 : decode cX5_prepares 71 = .ok (.iload_n 2, 1) := by decide +kernel
theorem dX5_prepares_72 : decode cX5_prepares 72 = .ok (.iload_n 1, 1) := by decide +kernel
theorem dX5_prepares_73 : decode cX5_prepares 73 = .ok (.invokevirtual 98, 3) := by decide +kernel
theorem dX5_prepares_76 : decode cX5_prepares 76 = .ok (.aload_n 0, 1) := by decide +kernel
theorem dX5_prepares_77 : decode cX5_prepares 77 = .ok (.getfield 16, 3) := by decide +kernel
theorem dX5_prepares_80 : decode cX5_prepares 80 = .ok (.iload_n 1, 1) := by decide +kernel
theorem dX5_prepares_81 : decode cX5_prepares 81 = .ok (.iload 4, 2) := by decide +kernel
theorem dX5_prepares_83 : decode cX5_prepares 83 = .ok (.iload 5, 2) := by decide +kernel
theorem dX5_prepares_85 : decode cX5_prepares 85 = .ok (.invokestatic 106, 3) := by decide +kernel
theorem dX5_prepares_88 : decode cX5_prepares 88 = .ok (.aload_n 0, 1) := by decide +kernel
theorem dX5_prepares_89 : decode cX5_prepares 89 = .ok (.getfield 13, 3) := by decide +kernel
theorem dX5_prepares_92 : decode cX5_prepares 92 = .ok (.iload_n 1, 1) := by decide +kernel
theorem dX5_prepares_93 : decode cX5_prepares 93 = .ok (.iaload, 1) := by decide +kernel
theorem dX5_prepares_94 : decode cX5_prepares 94 = .ok (.invokestatic 110, 3) := by decide +kernel
theorem dX5_prepares_97 : decode cX5_prepares 97 = .ok (.iastore, 1) := by decide +kernel
theorem dX5_prepares_98 : decode cX5_prepares 98 = .ok (.aload_n 0, 1) := by decide +kernel
theorem dX5_prepares_99 : decode cX5_prepares 99 = .ok (.iload_n 1, 1) := by decide +kernel
theorem dX5_prepares_100 : decode cX5_prepares 100 = .ok (.invokevirtual 113, 3) := by decide +kernel
theorem dX5_prepares_103 : decode cX5_prepares 103 = .ok (.iconst 1, 1) := by decide +kernel
theorem dX5_prepares_104 : decode cX5_prepares 104 = .ok (.ireturn, 1) := by decide +kernel
set_option maxRecDepth 20000 in
theorem ggX5_hears_X5_isFirst : GoodIn wsX5_hears wsX5_isFirst := goodIn_r _ [12, 1, 6, 16, 17, 18, 19, 20, 21, 22, 23, 24, 25, 26, 27, 28, 29, 30, 31, 32, 33, 34, 35, 36, 37, 38, 39, 40, 41] (by decide +kernel) (by decide +kernel)
set_option maxRecDepth 20000 in
theorem gX5_hears_X5_isFirst : GoodIn wsX5_hears (wsV RX5 121 RX5 yX5_isFirst wsX5_isFirst) := goodIn_app (goodIn_of _ (by decide +kernel)) ggX5_hears_X5_isFirst
set_option maxRecDepth 20000 in
theorem ggX5_hears_X5_greater : GoodIn wsX5_hears wsX5_greater := goodIn_r _ [15] (by decide +kernel) (by decide +kernel)
set_option maxRecDepth 20000 in
theorem gX5_hears_X5_greater : GoodIn wsX5_hears (va_wsS RX5 106 yX5_greater wsX5_greater) := goodIn_app (goodIn_of _ (by decide +kernel)) ggX5_hears_X5_greater
theorem dX5_hears_0 : decode cX5_hears 0 = .ok (.aload_n 0, 1) := by decide +kernel
theorem dX5_hears_1 : decode cX5_hears 1 = .ok (.getfield 22, 3) := by decide +kernel
theorem dX5_hears_4 : decode cX5_hears 4 = .ok (.iload_n 1, 1) := by decide +kernel
theorem dX5_hears_5 : decode cX5_hears 5 = .ok (.iaload, 1) := by decide +kernel
theorem dX5_hears_6 : decode cX5_hears 6 = .ok (.iload_n 3, 1) := by decide +kernel
theorem dX5_hears_7 : decode cX5_hears 7 = .ok (.if_icmp .ne 20, 3) := by decide +kernel
theorem dX5_hears_10 : decode cX5_hears 10 = .ok (.aload_n 0, 1) := by decide +kernel
theorem dX5_hears_11 : decode cX5_hears 11 = .ok (.iload_n 1, 1) := by decide +kernel
theorem dX5_hears_12 : decode cX5_hears 12 = .ok (.invokevirtual 121, 3) := by decide +kernel
theorem dX5_hears_15 : decode cX5_hears 15 = .ok (.ifCond .eq 12, 3) := by decide +kernel
theorem dX5_hears_18 : decode cX5_hears 18 = .ok (.aload_n 0, 1) := by decide +kernel
theorem dX5_hears_19 : decode cX5_hears 19 = .ok (.getfield 19, 3) := by decide +kernel
theorem dX5_hears_22 : decode cX5_hears 22 = .ok (.iload_n 1, 1) := by decide +kernel
theorem dX5_hears_23 : decode cX5_hears 23 = .ok (.iaload, 1) := by decide +kernel
theorem dX5_hears_24 : decode cX5_hears 24 = .ok (.ifCond .eq 5, 3) := by decide +kernel
theorem dX5_hears_27 : decode cX5_hears 27 = .ok (.iconst 0, 1) := by decide +kernel
theorem dX5_hears_28 : decode cX5_hears 28 = .ok (.ireturn, 1) := by decide +kernel
theorem dX5_hears_29 : decode cX5_hears 29 = .ok (.aload_n 0, 1) := by decide +kernel
theorem dX5_hears_30 : decode cX5_hears 30 = .ok (.getfield 35, 3) := by decide +kernel
theorem dX5_hears_33 : decode cX5_hears 33 = .ok (.iconst 5, 1) := by decide +kernel
theorem dX5_hears_34 : decode cX5_hears 34 = .ok (.iload_n 1, 1) := by decide +kernel
theorem dX5_hears_35 : decode cX5_hears 35 = .ok (.imul, 1) := by decide +kernel
theorem dX5_hears_36 : decode cX5_hears 36 = .ok (.iload_n 2, 1) := by decide +kernel
theorem dX5_hears_37 : decode cX5_hears 37 = .ok (.iadd, 1) := by decide +kernel
theorem dX5_hears_38 : decode cX5_hears 38 = .ok (.aload_n 0, 1) := by decide +kernel
theorem dX5_hears_39 : decode cX5_hears 39 = .ok (.getfield 35, 3) := by decide +kernel
theorem dX5_hears_42 : decode cX5_hears 42 = .ok (.iconst 5, 1) := by decide +kernel
theorem dX5_hears_43 : decode cX5_hears 43 = .ok (.iload_n 1, 1) := by decide +kernel
theorem dX5_hears_44 : decode cX5_hears 44 = .ok (.imul, 1) := by decide +kernel
theorem dX5_hears_45 : decode cX5_hears 45 = .ok (.iload_n 2, 1) := by decide +kernel
theorem dX5_hears_46 : decode cX5_hears 46 = .ok (.iadd, 1) := by decide +kernel
theorem dX5_hears_47 : decode cX5_hears 47 = .ok (.iaload, 1) := by decide +kernel
theorem dX5_hears_48 : decode cX5_hears 48 = .ok (.iload 4, 2) := by decide +kernel
theorem dX5_hears_50 : decode cX5_hears 50 = .ok (.invokestatic 106, 3) := by decide +kernel
theorem dX5_hears_53 : decode cX5_hears 53 = .ok (.iastore, 1) := by decide +kernel
theorem dX5_hears_54 : decode cX5_hears 54 = .ok (.aload_n 0, 1) := by decide +kernel
theorem dX5_hears_55 : decode cX5_hears 55 = .ok (.getfield 13, 3) := by decide +kernel
theorem dX5_hears_58 : decode cX5_hears 58 = .ok (.iload_n 1, 1) := by decide +kernel
theorem dX5_hears_59 : decode cX5_hears 59 = .ok (.iaload, 1) := by decide +kernel
theorem dX5_hears_60 : decode cX5_hears 60 = .ok (.istore 5, 2) := by decide +kernel
theorem dX5_hears_62 : decode cX5_hears 62 = .ok (.iload 5, 2) := by decide +kernel
theorem dX5_hears_64 : decode cX5_hears 64 = .ok (.aload_n 0, 1) := by decide +kernel
theorem dX5_hears_65 : decode cX5_hears 65 = .ok (.getfield 16, 3) := by decide +kernel
theorem dX5_hears_68 : decode cX5_hears 68 = .ok (.iload_n 1, 1) := by decide +kernel
theorem dX5_hears_69 : decode cX5_hears 69 = .ok (.iaload, 1) := by decide +kernel
theorem dX5_hears_70 : decode cX5_hears 70 = .ok (.if_icmp .le 79, 3) := by decide +kernel
theorem dX5_hears_73 : decode cX5_hears 73 = .ok (.iconst 0, 1) := by decide +kernel
theorem dX5_hears_74 : decode cX5_hears 74 = .ok (.istore 6, 2) := by decide +kernel
theorem dX5_hears_76 : decode cX5_hears 76 = .ok (.iconst 0, 1) := by decide +kernel
theorem dX5_hears_77 : decode cX5_hears 77 = .ok (.istore 7, 2) := by decide +kernel
theorem dX5_hears_79 : decode cX5_hears 79 = .ok (.iload 7, 2) := by decide +kernel
theorem dX5_hears_81 : decode cX5_hears 81 = .ok (.aload_n 0, 1) := by decide +kernel
theorem dX5_hears_82 : decode cX5_hears 82 = .ok (.getfield 77, 3) := by decide +kernel
theorem dX5_hears_85 : decode cX5_hears 85 = .ok (.if_icmp .ge 41, 3) := by decide +kernel
theorem dX5_hears_88 : decode cX5_hears 88 = .ok (.iload 6, 2) := by decide +kernel
theorem dX5_hears_90 : decode cX5_hears 90 = .ok (.iload 7, 2) := by decide +kernel
theorem dX5_hears_92 : decode cX5_hears 92 = .ok (.iload_n 1, 1) := by decide +kernel
theorem dX5_hears_93 : decode cX5_hears 93 = .ok (.if_icmp .eq 23, 3) := by decide +kernel
theorem dX5_hears_96 : decode cX5_hears 96 = .ok (.aload_n 0, 1) := by decide +kernel
theorem dX5_hears_97 : decode cX5_hears 97 = .ok (.getfield 35, 3) := by decide +kernel
theorem dX5_hears_100 : decode cX5_hears 100 = .ok (.iconst 5, 1) := by decide +kernel
theorem dX5_hears_101 : decode cX5_hears 101 = .ok (.iload_n 1, 1) := by decide +kernel
theorem dX5_hears_102 : decode cX5_hears 102 = .ok (.imul, 1) := by decide +kernel
theorem dX5_hears_103 : decode cX5_hears 103 = .ok (.iload 7, 2) := by decide +kernel
theorem dX5_hears_105 : decode cX5_hears 105 = .ok (.iadd, 1) := by decide +kernel
theorem dX5_hears_106 : decode cX5_hears 106 = .ok (.iaload, 1) := by decide +kernel
theorem dX5_hears_107 : decode cX5_hears 107 = .ok (.iload 5, 2) := by decide +kernel
theorem dX5_hears_109 : decode cX5_hears 109 = .ok (.if_icmp .lt 7, 3) := by decide +kernel
theorem dX5_hears_112 : decode cX5_hears 112 = .ok (.iconst 1, 1) := by decide +kernel
theorem dX5_hears_113 : decode cX5_hears 113 = .ok (.goto 4, 3) := by decide +kernel
theorem dX5_hears_116 : decode cX5_hears 116 = .ok (.iconst 0, 1) := by decide +kernel
theorem dX5_hears_117 : decode cX5_hears 117 = .ok (.iadd, 1) := by decide +kernel
theorem dX5_hears_118 : decode cX5_hears 118 = .ok (.istore 6, 2) := by decide +kernel
theorem dX5_hears_120 : decode cX5_hears 120 = .ok (.iinc 7 1, 3) := by decide +kernel
theorem dX5_hears_123 : decode cX5_hears 123 = .ok (.goto (-44), 3) := by decide +kernel
theorem dX5_hears_126 : decode cX5_hears 126 = .ok (.iload 6, 2) := by decide +kernel
theorem dX5_hears_128 : decode cX5_hears 128 = .ok (.aload_n 0, 1) := by decide +kernel
theorem dX5_hears_129 : decode cX5_hears 129 = .ok (.getfield 81, 3) := by decide +kernel
theorem dX5_hears_132 : decode cX5_hears 132 = .ok (.if_icmp .lt 11, 3) := by decide +kernel
theorem dX5_hears_135 : decode cX5_hears 135 = .ok (.aload_n 0, 1) := by decide +kernel
theorem dX5_hears_136 : decode cX5_hears 136 = .ok (.getfield 16, 3) := by decide +kernel
theorem dX5_hears_139 : decode cX5_hears 139 = .ok (.iload_n 1, 1) := by decide +kernel
theorem dX5_hears_140 : decode cX5_hears 140 = .ok (.iload 5, 2) := by decide +kernel
theorem dX5_hears_142 : decode cX5_hears 142 = .ok (.iastore, 1) := by decide +kernel
theorem dX5_hears_143 : decode cX5_hears 143 = .ok (.iinc 5 (-1), 3) := by decide +kernel
theorem dX5_hears_146 : decode cX5_hears 146 = .ok (.goto (-84), 3) := by decide +kernel
theorem dX5_hears_149 : decode cX5_hears 149 = .ok (.iconst 1, 1) := by decide +kernel
theorem dX5_hears_150 : decode cX5_hears 150 = .ok (.ireturn, 1) := by decide +kernel
theorem dX5_forget_0 : decode cX5_forget 0 = .ok (.iconst 0, 1) := by decide +kernel
theorem dX5_forget_1 : decode cX5_forget 1 = .ok (.istore_n 2, 1) := by decide +kernel
theorem dX5_forget_2 : decode cX5_forget 2 = .ok (.iload_n 2, 1) := by decide +kernel
theorem dX5_forget_3 : decode cX5_forget 3 = .ok (.iconst 5, 1) := by decide +kernel
theorem dX5_forget_4 : decode cX5_forget 4 = .ok (.if_icmp .ge 31, 3) := by decide +kernel
theorem dX5_forget_7 : decode cX5_forget 7 = .ok (.aload_n 0, 1) := by decide +kernel
theorem dX5_forget_8 : decode cX5_forget 8 = .ok (.getfield 38, 3) := by decide +kernel
theorem dX5_forget_11 : decode cX5_forget 11 = .ok (.iconst 5, 1) := by decide +kernel
theorem dX5_forget_12 : decode cX5_forget 12 = .ok (.iload_n 1, 1) := by decide +kernel
theorem dX5_forget_13 : decode cX5_forget 13 = .ok (.imul, 1) := by decide +kernel
theorem dX5_forget_14 : decode cX5_forget 14 = .ok (.iload_n 2, 1) := by decide +kernel
theorem dX5_forget_15 : decode cX5_forget 15 = .ok (.iadd, 1) := by decide +kernel
theorem dX5_forget_16 : decode cX5_forget 16 = .ok (.iconst 0, 1) := by decide +kernel
theorem dX5_forget_17 : decode cX5_forget 17 = .ok (.bastore, 1) := by decide +kernel
theorem dX5_forget_18 : decode cX5_forget 18 = .ok (.aload_n 0, 1) := by decide +kernel
theorem dX5_forget_19 : decode cX5_forget 19 = .ok (.getfield 41, 3) := by decide +kernel
theorem dX5_forget_22 : decode cX5_forget 22 = .ok (.iconst 5, 1) := by decide +kernel
theorem dX5_forget_23 : decode cX5_forget 23 = .ok (.iload_n 1, 1) := by decide +kernel
theorem dX5_forget_24 : decode cX5_forget 24 = .ok (.imul, 1) := by decide +kernel
theorem dX5_forget_25 : decode cX5_forget 25 = .ok (.iload_n 2, 1) := by decide +kernel
theorem dX5_forget_26 : decode cX5_forget 26 = .ok (.iadd, 1) := by decide +kernel
theorem dX5_forget_27 : decode cX5_forget 27 = .ok (.iconst 0, 1) := by decide +kernel
theorem dX5_forget_28 : decode cX5_forget 28 = .ok (.bastore, 1) := by decide +kernel
theorem dX5_forget_29 : decode cX5_forget 29 = .ok (.iinc 2 1, 3) := by decide +kernel
theorem dX5_forget_32 : decode cX5_forget 32 = .ok (.goto (-30), 3) := by decide +kernel
theorem dX5_forget_35 : decode cX5_forget 35 = .ok (.aload_n 0, 1) := by decide +kernel
theorem dX5_forget_36 : decode cX5_forget 36 = .ok (.getfield 28, 3) := by decide +kernel
theorem dX5_forget_39 : decode cX5_forget 39 = .ok (.iload_n 1, 1) := by decide +kernel
theorem dX5_forget_40 : decode cX5_forget 40 = .ok (.iconst 0, 1) := by decide +kernel
theorem dX5_forget_41 : decode cX5_forget 41 = .ok (.bastore, 1) := by decide +kernel
theorem dX5_forget_42 : decode cX5_forget 42 = .ok (.return_, 1) := by decide +kernel
set_option maxRecDepth 20000 in
theorem ggX5_changes_X5_forget : GoodIn wsX5_changes wsX5_forget := goodIn_r _ [7, 8, 9, 10, 37, 38, 39, 40, 41, 42, 43, 44, 45, 46, 47, 48, 49, 50, 51, 52, 53, 54, 55, 56, 57, 58, 59, 60, 61, 62] (by decide +kernel) (by decide +kernel)
set_option maxRecDepth 20000 in
theorem gX5_changes_X5_forget : GoodIn wsX5_changes (wsV RX5 124 RX5 yX5_forget wsX5_forget) := goodIn_app (goodIn_of _ (by decide +kernel)) ggX5_changes_X5_forget
set_option maxRecDepth 20000 in
theorem ggX5_changes_X5_postAll : GoodIn wsX5_changes wsX5_postAll := goodIn_r _ [14, 15, 16, 17, 18, 6, 19, 20, 21, 22, 23, 24, 25, 26, 27, 28, 29, 30, 31, 32, 33, 34, 35, 36, 37, 38, 39, 40, 41, 42, 43, 44, 45, 46, 47, 48, 49, 50, 51, 52, 53, 54, 55, 56, 57, 58, 59, 60, 61, 62] (by decide +kernel) (by decide +kernel)
set_option maxRecDepth 20000 in
theorem gX5_changes_X5_postAll : GoodIn wsX5_changes (wsV RX5 127 RX5 yX5_postAll wsX5_postAll) := goodIn_app (goodIn_of _ (by decide +kernel)) ggX5_changes_X5_postAll
theorem dX5_changes_0 : decode cX5_changes 0 = .ok (.aload_n 0, 1) := by decide +kernel
theorem dX5_changes_1 : decode cX5_changes 1 = .ok (.getfield 22, 3) := by decide +kernel
theorem dX5_changes_4 : decode cX5_changes 4 = .ok (.iload_n 1, 1) := by decide +kernel
theorem dX5_changes_5 : decode cX5_changes 5 = .ok (.iload_n 2, 1) := by decide +kernel
theorem dX5_changes_6 : decode cX5_changes 6 = .ok (.iastore, 1) := by decide +kernel
theorem dX5_changes_7 : decode cX5_changes 7 = .ok (.aload_n 0, 1) := by decide +kernel
theorem dX5_changes_8 : decode cX5_changes 8 = .ok (.getfield 19, 3) := by decide +kernel
theorem dX5_changes_11 : decode cX5_changes 11 = .ok (.iload_n 1, 1) := by decide +kernel
theorem dX5_changes_12 : decode cX5_changes 12 = .ok (.iconst 1, 1) := by decide +kernel
theorem dX5_changes_13 : decode cX5_changes 13 = .ok (.iastore, 1) := by decide +kernel
theorem dX5_changes_14 : decode cX5_changes 14 = .ok (.aload_n 0, 1) := by decide +kernel
theorem dX5_changes_15 : decode cX5_changes 15 = .ok (.iload_n 1, 1) := by decide +kernel
theorem dX5_changes_16 : decode cX5_changes 16 = .ok (.invokevirtual 124, 3) := by decide +kernel
theorem dX5_changes_19 : decode cX5_changes 19 = .ok (.aload_n 0, 1) := by decide +kernel
theorem dX5_changes_20 : decode cX5_changes 20 = .ok (.iload_n 1, 1) := by decide +kernel
theorem dX5_changes_21 : decode cX5_changes 21 = .ok (.iconst 3, 1) := by decide +kernel
theorem dX5_changes_22 : decode cX5_changes 22 = .ok (.iload_n 2, 1) := by decide +kernel
theorem dX5_changes_23 : decode cX5_changes 23 = .ok (.iconst 0, 1) := by decide +kernel
theorem dX5_changes_24 : decode cX5_changes 24 = .ok (.invokevirtual 127, 3) := by decide +kernel
theorem dX5_changes_27 : decode cX5_changes 27 = .ok (.istore_n 3, 1) := by decide +kernel
theorem dX5_changes_28 : decode cX5_changes 28 = .ok (.return_, 1) := by decide +kernel
theorem dX5_voters_0 : decode cX5_voters 0 = .ok (.iconst 0, 1) := by decide +kernel
theorem dX5_voters_1 : decode cX5_voters 1 = .ok (.istore_n 2, 1) := by decide +kernel
theorem dX5_voters_2 : decode cX5_voters 2 = .ok (.iconst 0, 1) := by decide +kernel
theorem dX5_voters_3 : decode cX5_voters 3 = .ok (.istore_n 3, 1) := by decide +kernel
theorem dX5_voters_4 : decode cX5_voters 4 = .ok (.iload_n 3, 1) := by decide +kernel
theorem dX5_voters_5 : decode cX5_voters 5 = .ok (.aload_n 0, 1) := by decide +kernel
theorem dX5_voters_6 : decode cX5_voters 6 = .ok (.getfield 77, 3) := by decide +kernel
theorem dX5_voters_9 : decode cX5_voters 9 = .ok (.if_icmp .ge 30, 3) := by decide +kernel
theorem dX5_voters_12 : decode cX5_voters 12 = .ok (.iload_n 2, 1) := by decide +kernel
theorem dX5_voters_13 : decode cX5_voters 13 = .ok (.aload_n 0, 1) := by decide +kernel
theorem dX5_voters_14 : decode cX5_voters 14 = .ok (.getfield 38, 3) := by decide +kernel
theorem dX5_voters_17 : decode cX5_voters 17 = .ok (.iconst 5, 1) := by decide +kernel
theorem dX5_voters_18 : decode cX5_voters 18 = .ok (.iload_n 1, 1) := by decide +kernel
theorem dX5_voters_19 : decode cX5_voters 19 = .ok (.imul, 1) := by decide +kernel
theorem dX5_voters_20 : decode cX5_voters 20 = .ok (.iload_n 3, 1) := by decide +kernel
theorem dX5_voters_21 : decode cX5_voters 21 = .ok (.iadd, 1) := by decide +kernel
theorem dX5_voters_22 : decode cX5_voters 22 = .ok (.baload, 1) := by decide +kernel
theorem dX5_voters_23 : decode cX5_voters 23 = .ok (.ifCond .eq 7, 3) := by decide +kernel
theorem dX5_voters_26 : decode cX5_voters 26 = .ok (.iconst 1, 1) := by decide +kernel
theorem dX5_voters_27 : decode cX5_voters 27 = .ok (.goto 4, 3) := by decide +kernel
theorem dX5_voters_30 : decode cX5_voters 30 = .ok (.iconst 0, 1) := by decide +kernel
theorem dX5_voters_31 : decode cX5_voters 31 = .ok (.iadd, 1) := by decide +kernel
theorem dX5_voters_32 : decode cX5_voters 32 = .ok (.istore_n 2, 1) := by decide +kernel
theorem dX5_voters_33 : decode cX5_voters 33 = .ok (.iinc 3 1, 3) := by decide +kernel
theorem dX5_voters_36 : decode cX5_voters 36 = .ok (.goto (-32), 3) := by decide +kernel
theorem dX5_voters_39 : decode cX5_voters 39 = .ok (.iload_n 2, 1) := by decide +kernel
theorem dX5_voters_40 : decode cX5_voters 40 = .ok (.ireturn, 1) := by decide +kernel
theorem dX5_votes_0 : decode cX5_votes 0 = .ok (.iconst 0, 1) := by decide +kernel
theorem dX5_votes_1 : decode cX5_votes 1 = .ok (.istore_n 2, 1) := by decide +kernel
theorem dX5_votes_2 : decode cX5_votes 2 = .ok (.iconst 0, 1) := by decide +kernel
theorem dX5_votes_3 : decode cX5_votes 3 = .ok (.istore_n 3, 1) := by decide +kernel
theorem dX5_votes_4 : decode cX5_votes 4 = .ok (.iload_n 3, 1) := by decide +kernel
theorem dX5_votes_5 : decode cX5_votes 5 = .ok (.aload_n 0, 1) := by decide +kernel
theorem dX5_votes_6 : decode cX5_votes 6 = .ok (.getfield 77, 3) := by decide +kernel
theorem dX5_votes_9 : decode cX5_votes 9 = .ok (.if_icmp .ge 30, 3) := by decide +kernel
theorem dX5_votes_12 : decode cX5_votes 12 = .ok (.iload_n 2, 1) := by decide +kernel
theorem dX5_votes_13 : decode cX5_votes 13 = .ok (.aload_n 0, 1) := by decide +kernel
theorem dX5_votes_14 : decode cX5_votes 14 = .ok (.getfield 41, 3) := by decide +kernel
theorem dX5_votes_17 : decode cX5_votes 17 = .ok (.iconst 5, 1) := by decide +kernel
theorem dX5_votes_18 : decode cX5_votes 18 = .ok (.iload_n 1, 1) := by decide +kernel
theorem dX5_votes_19 : decode cX5_votes 19 = .ok (.imul, 1) := by decide +kernel
theorem dX5_votes_20 : decode cX5_votes 20 = .ok (.iload_n 3, 1) := by decide +kernel
theorem dX5_votes_21 : decode cX5_votes 21 = .ok (.iadd, 1) := by decide +kernel
theorem dX5_votes_22 : decode cX5_votes 22 = .ok (.baload, 1) := by decide +kernel
theorem dX5_votes_23 : decode cX5_votes 23 = .ok (.ifCond .eq 7, 3) := by decide +kernel
theorem dX5_votes_26 : decode cX5_votes 26 = .ok (.iconst 1, 1) := by decide +kernel
theorem dX5_votes_27 : decode cX5_votes 27 = .ok (.goto 4, 3) := by decide +kernel
theorem dX5_votes_30 : decode cX5_votes 30 = .ok (.iconst 0, 1) := by decide +kernel
theorem dX5_votes_31 : decode cX5_votes 31 = .ok (.iadd, 1) := by decide +kernel
theorem dX5_votes_32 : decode cX5_votes 32 = .ok (.istore_n 2, 1) := by decide +kernel
theorem dX5_votes_33 : decode cX5_votes 33 = .ok (.iinc 3 1, 3) := by decide +kernel
theorem dX5_votes_36 : decode cX5_votes 36 = .ok (.goto (-32), 3) := by decide +kernel
theorem dX5_votes_39 : decode cX5_votes 39 = .ok (.iload_n 2, 1) := by decide +kernel
theorem dX5_votes_40 : decode cX5_votes 40 = .ok (.ireturn, 1) := by decide +kernel
set_option maxRecDepth 20000 in
theorem ggX5_isAsked_X5_changes : GoodIn wsX5_isAsked wsX5_changes := goodIn_r _ [12, 1, 2, 13, 14, 15, 11, 16, 3, 17, 5, 18, 19, 20, 21, 7, 22, 23, 24, 25, 26, 27, 28, 29, 30, 31, 32, 33, 34, 35, 36, 37, 38, 39, 40, 41, 42, 67, 68, 69, 70, 71, 72, 73, 74, 75, 76, 77, 78, 79, 80, 81, 82, 83, 84, 85, 86, 87, 88, 89, 90, 91, 92] (by decide +kernel) (by decide +kernel)
set_option maxRecDepth 20000 in
theorem gX5_isAsked_X5_changes : GoodIn wsX5_isAsked (wsV RX5 131 RX5 yX5_changes wsX5_changes) := goodIn_app (goodIn_of _ (by decide +kernel)) ggX5_isAsked_X5_changes
set_option maxRecDepth 20000 in
theorem ggX5_isAsked_X5_voters : GoodIn wsX5_isAsked wsX5_voters := goodIn_r _ [46, 7, 3, 67, 68, 69, 70, 71, 72, 73, 74, 75, 76, 77, 78, 79, 80, 81, 82, 83, 84, 85, 86, 87, 88, 89, 90, 91, 92] (by decide +kernel) (by decide +kernel)
set_option maxRecDepth 20000 in
theorem gX5_isAsked_X5_voters : GoodIn wsX5_isAsked (wsV RX5 134 RX5 yX5_voters wsX5_voters) := goodIn_app (goodIn_of _ (by decide +kernel)) ggX5_isAsked_X5_voters
set_option maxRecDepth 20000 in
theorem ggX5_isAsked_X5_isFirst : GoodIn wsX5_isAsked wsX5_isFirst := goodIn_r _ [50, 1, 7, 67, 68, 69, 70, 71, 72, 73, 74, 75, 76, 77, 78, 79, 80, 81, 82, 83, 84, 85, 86, 87, 88, 89, 90, 91, 92] (by decide +kernel) (by decide +kernel)
set_option maxRecDepth 20000 in
theorem gX5_isAsked_X5_isFirst : GoodIn wsX5_isAsked (wsV RX5 121 RX5 yX5_isFirst wsX5_isFirst) := goodIn_app (goodIn_of _ (by decide +kernel)) ggX5_isAsked_X5_isFirst
set_option maxRecDepth 20000 in
theorem ggX5_isAsked_X5_takesVote : GoodIn wsX5_isAsked wsX5_takesVote := goodIn_r _ [54, 2, 17, 55, 4, 7, 41, 40, 6, 1, 56, 36, 37, 38, 11, 39, 42, 57, 58, 59, 60, 61, 62, 63, 64, 65, 66, 18, 19, 20, 21, 22, 23, 24, 25, 26, 27, 28, 29, 30, 31, 32, 33, 34, 35, 67, 68, 69, 70, 71, 72, 73, 74, 75, 76, 77, 78, 79, 80, 81, 82, 83, 84, 85, 86, 87, 88, 89, 90, 91, 92] (by decide +kernel) (by decide +kernel)
set_option maxRecDepth 20000 in
theorem gX5_isAsked_X5_takesVote : GoodIn wsX5_isAsked (wsV RX5 138 RX5 yX5_takesVote wsX5_takesVote) := goodIn_app (goodIn_of _ (by decide +kernel)) ggX5_isAsked_X5_takesVote
set_option maxRecDepth 20000 in
theorem ggX5_isAsked_X5_post : GoodIn wsX5_isAsked wsX5_post := goodIn_r _ [25, 26, 27, 28, 29, 30, 31, 32, 33, 34, 11, 35, 36, 37, 38, 39, 40, 41, 42, 67, 68, 69, 70, 71, 72, 73, 74, 75, 76, 77, 78, 79, 80, 81, 82, 83, 84, 85, 86, 87, 88, 89, 90, 91, 92] (by decide +kernel) (by decide +kernel)
set_option maxRecDepth 20000 in
theorem gX5_isAsked_X5_post : GoodIn wsX5_isAsked (wsV RX5 102 RX5 yX5_post wsX5_post) := goodIn_app (goodIn_of _ (by decide +kernel)) ggX5_isAsked_X5_post
theorem dX5_isAsked_0 : decode cX5_isAsked 0 = .ok (.iconst 0, 1) := by decide +kernel
theorem dX5_isAsked_1 : decode cX5_isAsked 1 = .ok (.istore 4, 2) := by decide +kernel
theorem dX5_isAsked_3 : decode cX5_isAsked 3 = .ok (.iload_n 3, 1) := by decide +kernel
theorem dX5_isAsked_4 : decode cX5_isAsked 4 = .ok (.aload_n 0, 1) := by decide +kernel
theorem dX5_isAsked_5 : decode cX5_isAsked 5 = .ok (.getfield 22, 3) := by decide +kernel
theorem dX5_isAsked_8 : decode cX5_isAsked 8 = .ok (.iload_n 1, 1) := by decide +kernel
theorem dX5_isAsked_9 : decode cX5_isAsked 9 = .ok (.iaload, 1) := by decide +kernel
theorem dX5_isAsked_10 : decode cX5_isAsked 10 = .ok (.if_icmp .le 12, 3) := by decide +kernel
theorem dX5_isAsked_13 : decode cX5_isAsked 13 = .ok (.aload_n 0, 1) := by decide +kernel
theorem dX5_isAsked_14 : decode cX5_isAsked 14 = .ok (.iload_n 1, 1) := by decide +kernel
theorem dX5_isAsked_15 : decode cX5_isAsked 15 = .ok (.iload_n 3, 1) := by decide +kernel
theorem dX5_isAsked_16 : decode cX5_isAsked 16 = .ok (.invokevirtual 131, 3) := by decide +kernel
theorem dX5_isAsked_19 : decode cX5_isAsked 19 = .ok (.iconst 1, 1) := by decide +kernel
theorem dX5_isAsked_20 : decode cX5_isAsked 20 = .ok (.istore 4, 2) := by decide +kernel
theorem dX5_isAsked_22 : decode cX5_isAsked 22 = .ok (.aload_n 0, 1) := by decide +kernel
theorem dX5_isAsked_23 : decode cX5_isAsked 23 = .ok (.getfield 19, 3) := by decide +kernel
theorem dX5_isAsked_26 : decode cX5_isAsked 26 = .ok (.iload_n 1, 1) := by decide +kernel
theorem dX5_isAsked_27 : decode cX5_isAsked 27 = .ok (.iaload, 1) := by decide +kernel
theorem dX5_isAsked_28 : decode cX5_isAsked 28 = .ok (.iconst 1, 1) := by decide +kernel
theorem dX5_isAsked_29 : decode cX5_isAsked 29 = .ok (.if_icmp .eq 6, 3) := by decide +kernel
theorem dX5_isAsked_32 : decode cX5_isAsked 32 = .ok (.iload 4, 2) := by decide +kernel
theorem dX5_isAsked_34 : decode cX5_isAsked 34 = .ok (.ireturn, 1) := by decide +kernel
theorem dX5_isAsked_35 : decode cX5_isAsked 35 = .ok (.iload 4, 2) := by decide +kernel
theorem dX5_isAsked_37 : decode cX5_isAsked 37 = .ok (.aload_n 0, 1) := by decide +kernel
theorem dX5_isAsked_38 : decode cX5_isAsked 38 = .ok (.getfield 38, 3) := by decide +kernel
theorem dX5_isAsked_41 : decode cX5_isAsked 41 = .ok (.iconst 5, 1) := by decide +kernel
theorem dX5_isAsked_42 : decode cX5_isAsked 42 = .ok (.iload_n 1, 1) := by decide +kernel
theorem dX5_isAsked_43 : decode cX5_isAsked 43 = .ok (.imul, 1) := by decide +kernel
theorem dX5_isAsked_44 : decode cX5_isAsked 44 = .ok (.iload_n 2, 1) := by decide +kernel
theorem dX5_isAsked_45 : decode cX5_isAsked 45 = .ok (.iadd, 1) := by decide +kernel
theorem dX5_isAsked_46 : decode cX5_isAsked 46 = .ok (.baload, 1) := by decide +kernel
theorem dX5_isAsked_47 : decode cX5_isAsked 47 = .ok (.ifCond .ne 7, 3) := by decide +kernel
theorem dX5_isAsked_50 : decode cX5_isAsked 50 = .ok (.iconst 1, 1) := by decide +kernel
theorem dX5_isAsked_51 : decode cX5_isAsked 51 = .ok (.goto 4, 3) := by decide +kernel
theorem dX5_isAsked_54 : decode cX5_isAsked 54 = .ok (.iconst 0, 1) := by decide +kernel
theorem dX5_isAsked_55 : decode cX5_isAsked 55 = .ok (.ior, 1) := by decide +kernel
theorem dX5_isAsked_56 : decode cX5_isAsked 56 = .ok (.istore 4, 2) := by decide +kernel
theorem dX5_isAsked_58 : decode cX5_isAsked 58 = .ok (.aload_n 0, 1) := by decide +kernel
theorem dX5_isAsked_59 : decode cX5_isAsked 59 = .ok (.getfield 38, 3) := by decide +kernel
theorem dX5_isAsked_62 : decode cX5_isAsked 62 = .ok (.iconst 5, 1) := by decide +kernel
theorem dX5_isAsked_63 : decode cX5_isAsked 63 = .ok (.iload_n 1, 1) := by decide +kernel
theorem dX5_isAsked_64 : decode cX5_isAsked 64 = .ok (.imul, 1) := by decide +kernel
theorem dX5_isAsked_65 : decode cX5_isAsked 65 = .ok (.iload_n 2, 1) := by decide +kernel
theorem dX5_isAsked_66 : decode cX5_isAsked 66 = .ok (.iadd, 1) := by decide +kernel
theorem dX5_isAsked_67 : decode cX5_isAsked 67 = .ok (.iconst 1, 1) := by decide +kernel
theorem dX5_isAsked_68 : decode cX5_isAsked 68 = .ok (.bastore, 1) := by decide +kernel
theorem dX5_isAsked_69 : decode cX5_isAsked 69 = .ok (.aload_n 0, 1) := by decide +kernel
theorem dX5_isAsked_70 : decode cX5_isAsked 70 = .ok (.iload_n 1, 1) := by decide +kernel
theorem dX5_isAsked_71 : decode cX5_isAsked 71 = .ok (.invokevirtual 134, 3) := by decide +kernel
theorem dX5_isAsked_74 : decode cX5_isAsked 74 = .ok (.aload_n 0, 1) := by decide +kernel
theorem dX5_isAsked_75 : decode cX5_isAsked 75 = .ok (.getfield 81, 3) := by decide +kernel
theorem dX5_isAsked_78 : decode cX5_isAsked 78 = .ok (.if_icmp .lt 74, 3) := by decide +kernel
theorem dX5_isAsked_81 : decode cX5_isAsked 81 = .ok (.aload_n 0, 1) := by decide +kernel
theorem dX5_isAsked_82 : decode cX5_isAsked 82 = .ok (.getfield 28, 3) := by decide +kernel
theorem dX5_isAsked_85 : decode cX5_isAsked 85 = .ok (.iload_n 1, 1) := by decide +kernel
theorem dX5_isAsked_86 : decode cX5_isAsked 86 = .ok (.baload, 1) := by decide +kernel
theorem dX5_isAsked_87 : decode cX5_isAsked 87 = .ok (.ifCond .ne 65, 3) := by decide +kernel
theorem dX5_isAsked_90 : decode cX5_isAsked 90 = .ok (.aload_n 0, 1) := by decide +kernel
theorem dX5_isAsked_91 : decode cX5_isAsked 91 = .ok (.getfield 28, 3) := by decide +kernel
theorem dX5_isAsked_94 : decode cX5_isAsked 94 = .ok (.iload_n 1, 1) := by decide +kernel
theorem dX5_isAsked_95 : decode cX5_isAsked 95 = .ok (.iconst 1, 1) := by decide +kernel
theorem dX5_isAsked_96 : decode cX5_isAsked 96 = .ok (.bastore, 1) := by decide +kernel
theorem dX5_isAsked_97 : decode cX5_isAsked 97 = .ok (.aload_n 0, 1) := by decide +kernel
theorem dX5_isAsked_98 : decode cX5_isAsked 98 = .ok (.iload_n 1, 1) := by decide +kernel
theorem dX5_isAsked_99 : decode cX5_isAsked 99 = .ok (.invokevirtual 121, 3) := by decide +kernel
theorem dX5_isAsked_102 : decode cX5_isAsked 102 = .ok (.ifCond .eq 21, 3) := by decide +kernel
theorem dX5_isAsked_105 : decode cX5_isAsked 105 = .ok (.aload_n 0, 1) := by decide +kernel
theorem dX5_isAsked_106 : decode cX5_isAsked 106 = .ok (.iload_n 1, 1) := by decide +kernel
theorem dX5_isAsked_107 : decode cX5_isAsked 107 = .ok (.iload_n 1, 1) := by decide +kernel
theorem dX5_isAsked_108 : decode cX5_isAsked 108 = .ok (.iload_n 1, 1) := by decide +kernel
theorem dX5_isAsked_109 : decode cX5_isAsked 109 = .ok (.aload_n 0, 1) := by decide +kernel
theorem dX5_isAsked_110 : decode cX5_isAsked 110 = .ok (.getfield 25, 3) := by decide +kernel
theorem dX5_isAsked_113 : decode cX5_isAsked 113 = .ok (.iload_n 1, 1) := by decide +kernel
theorem dX5_isAsked_114 : decode cX5_isAsked 114 = .ok (.iaload, 1) := by decide +kernel
theorem dX5_isAsked_115 : decode cX5_isAsked 115 = .ok (.invokevirtual 138, 3) := by decide +kernel
theorem dX5_isAsked_118 : decode cX5_isAsked 118 = .ok (.istore 5, 2) := by decide +kernel
theorem dX5_isAsked_120 : decode cX5_isAsked 120 = .ok (.goto 32, 3) := by decide +kernel
theorem dX5_isAsked_123 : decode cX5_isAsked 123 = .ok (.aload_n 0, 1) := by decide +kernel
theorem dX5_isAsked_124 : decode cX5_isAsked 124 = .ok (.iload_n 1, 1) := by decide +kernel
theorem dX5_isAsked_125 : decode cX5_isAsked 125 = .ok (.aload_n 0, 1) := by decide +kernel
theorem dX5_isAsked_126 : decode cX5_isAsked 126 = .ok (.getfield 22, 3) := by decide +kernel
theorem dX5_isAsked_129 : decode cX5_isAsked 129 = .ok (.iload_n 1, 1) := by decide +kernel
theorem dX5_isAsked_130 : decode cX5_isAsked 130 = .ok (.iaload, 1) := by decide +kernel
theorem dX5_isAsked_131 : decode cX5_isAsked 131 = .ok (.aload_n 0, 1) := by decide +kernel
theorem dX5_isAsked_132 : decode cX5_isAsked 132 = .ok (.getfield 77, 3) := by decide +kernel
theorem dX5_isAsked_135 : decode cX5_isAsked 135 = .ok (.irem, 1) := by decide +kernel
theorem dX5_isAsked_136 : decode cX5_isAsked 136 = .ok (.iconst 4, 1) := by decide +kernel
theorem dX5_isAsked_137 : decode cX5_isAsked 137 = .ok (.aload_n 0, 1) := by decide +kernel
theorem dX5_isAsked_138 : decode cX5_isAsked 138 = .ok (.getfield 22, 3) := by decide +kernel
theorem dX5_isAsked_141 : decode cX5_isAsked 141 = .ok (.iload_n 1, 1) := by decide +kernel
theorem dX5_isAsked_142 : decode cX5_isAsked 142 = .ok (.iaload, 1) := by decide +kernel
theorem dX5_isAsked_143 : decode cX5_isAsked 143 = .ok (.aload_n 0, 1) := by decide +kernel
theorem dX5_isAsked_144 : decode cX5_isAsked 144 = .ok (.getfield 25, 3) := by decide +kernel
theorem dX5_isAsked_147 : decode cX5_isAsked 147 = .ok (.iload_n 1, 1) := by decide +kernel
theorem dX5_isAsked_148 : decode cX5_isAsked 148 = .ok (.iaload, 1) := by decide +kernel
theorem dX5_isAsked_149 : decode cX5_isAsked 149 = .ok (.invokevirtual 102, 3) := by decide +kernel
theorem dX5_isAsked_152 : decode cX5_isAsked 152 = .ok (.iload 4, 2) := by decide +kernel
theorem dX5_isAsked_154 : decode cX5_isAsked 154 = .ok (.ireturn, 1) := by decide +kernel
set_option maxRecDepth 20000 in
theorem ggX5_takesVote_X5_copyLog : GoodIn wsX5_takesVote wsX5_copyLog := goodIn_r _ [15, 7, 6, 16, 45, 46, 47, 48, 49, 50, 51, 52, 53, 54, 55, 56, 57, 58, 59, 60, 61, 62, 63, 64, 65, 66, 67, 68, 69, 70] (by decide +kernel) (by decide +kernel)
set_option maxRecDepth 20000 in
theorem gX5_takesVote_X5_copyLog : GoodIn wsX5_takesVote (wsV RX5 98 RX5 yX5_copyLog wsX5_copyLog) := goodIn_app (goodIn_of _ (by decide +kernel)) ggX5_takesVote_X5_copyLog
set_option maxRecDepth 20000 in
theorem ggX5_takesVote_X5_votes : GoodIn wsX5_takesVote wsX5_votes := goodIn_r _ [20, 5, 2, 45, 46, 47, 48, 49, 50, 51, 52, 53, 54, 55, 56, 57, 58, 59, 60, 61, 62, 63, 64, 65, 66, 67, 68, 69, 70] (by decide +kernel) (by decide +kernel)
set_option maxRecDepth 20000 in
theorem gX5_takesVote_X5_votes : GoodIn wsX5_takesVote (wsV RX5 142 RX5 yX5_votes wsX5_votes) := goodIn_app (goodIn_of _ (by decide +kernel)) ggX5_takesVote_X5_votes
set_option maxRecDepth 20000 in
theorem ggX5_takesVote_X5_greater : GoodIn wsX5_takesVote wsX5_greater := goodIn_r _ [23] (by decide +kernel) (by decide +kernel)
set_option maxRecDepth 20000 in
theorem gX5_takesVote_X5_greater : GoodIn wsX5_takesVote (va_wsS RX5 106 yX5_greater wsX5_greater) := goodIn_app (goodIn_of _ (by decide +kernel)) ggX5_takesVote_X5_greater
set_option maxRecDepth 20000 in
theorem ggX5_takesVote_X5_lesser : GoodIn wsX5_takesVote wsX5_lesser := goodIn_r _ [26] (by decide +kernel) (by decide +kernel)
set_option maxRecDepth 20000 in
theorem gX5_takesVote_X5_lesser : GoodIn wsX5_takesVote (va_wsS RX5 110 yX5_lesser wsX5_lesser) := goodIn_app (goodIn_of _ (by decide +kernel)) ggX5_takesVote_X5_lesser
set_option maxRecDepth 20000 in
theorem ggX5_takesVote_X5_postAll : GoodIn wsX5_takesVote wsX5_postAll := goodIn_r _ [30, 5, 31, 32, 33, 14, 34, 35, 36, 37, 38, 39, 40, 41, 42, 43, 44, 11, 12, 13, 15, 7, 6, 16, 45, 46, 47, 48, 49, 50, 51, 52, 53, 54, 55, 56, 57, 58, 59, 60, 61, 62, 63, 64, 65, 66, 67, 68, 69, 70] (by decide +kernel) (by decide +kernel)
set_option maxRecDepth 20000 in
theorem gX5_takesVote_X5_postAll : GoodIn wsX5_takesVote (wsV RX5 127 RX5 yX5_postAll wsX5_postAll) := goodIn_app (goodIn_of _ (by decide +kernel)) ggX5_takesVote_X5_postAll
theorem dX5_takesVote_0 : decode cX5_takesVote 0 = .ok (.aload_n 0, 1) := by decide +kernel
theorem dX5_takesVote_1 : decode cX5_takesVote 1 = .ok (.getfield 19, 3) := by decide +kernel
theorem dX5_takesVote_4 : decode cX5_takesVote 4 = .ok (.iload_n 1, 1) := by decide +kernel
theorem dX5_takesVote_5 : decode cX5_takesVote 5 = .ok (.iaload, 1) := by decide +kernel
theorem dX5_takesVote_6 : decode cX5_takesVote 6 = .ok (.iconst 1, 1) := by decide +kernel
theorem dX5_takesVote_7 : decode cX5_takesVote 7 = .ok (.if_icmp .ne 16, 3) := by decide +kernel
theorem dX5_takesVote_10 : decode cX5_takesVote 10 = .ok (.aload_n 0, 1) := by decide +kernel
theorem dX5_takesVote_11 : decode cX5_takesVote 11 = .ok (.getfield 41, 3) := by decide +kernel
theorem dX5_takesVote_14 : decode cX5_takesVote 14 = .ok (.iconst 5, 1) := by decide +kernel
theorem dX5_takesVote_15 : decode cX5_takesVote 15 = .ok (.iload_n 1, 1) := by decide +kernel
theorem dX5_takesVote_16 : decode cX5_takesVote 16 = .ok (.imul, 1) := by decide +kernel
theorem dX5_takesVote_17 : decode cX5_takesVote 17 = .ok (.iload_n 2, 1) := by decide +kernel
theorem dX5_takesVote_18 : decode cX5_takesVote 18 = .ok (.iadd, 1) := by decide +kernel
theorem dX5_takesVote_19 : decode cX5_takesVote 19 = .ok (.baload, 1) := by decide +kernel
theorem dX5_takesVote_20 : decode cX5_takesVote 20 = .ok (.ifCond .eq 5, 3) := by decide +kernel
theorem dX5_takesVote_23 : decode cX5_takesVote 23 = .ok (.iconst 0, 1) := by decide +kernel
theorem dX5_takesVote_24 : decode cX5_takesVote 24 = .ok (.ireturn, 1) := by decide +kernel
theorem dX5_takesVote_25 : decode cX5_takesVote 25 = .ok (.aload_n 0, 1) := by decide +kernel
theorem dX5_takesVote_26 : decode cX5_takesVote 26 = .ok (.getfield 41, 3) := by decide +kernel
theorem dX5_takesVote_29 : decode cX5_takesVote 29 = .ok (.iconst 5, 1) := by decide +kernel
theorem dX5_takesVote_30 : decode cX5_takesVote 30 = .ok (.iload_n 1, 1) := by decide +kernel
theorem dX5_takesVote_31 : decode cX5_takesVote 31 = .ok (.imul, 1) := by decide +kernel
theorem dX5_takesVote_32 : decode cX5_takesVote 32 = .ok (.iload_n 2, 1) := by decide +kernel
theorem dX5_takesVote_33 : decode cX5_takesVote 33 = .ok (.iadd, 1) := by decide +kernel
theorem dX5_takesVote_34 : decode cX5_takesVote 34 = .ok (.iconst 1, 1) := by decide +kernel
theorem dX5_takesVote_35 : decode cX5_takesVote 35 = .ok (.bastore, 1) := by decide +kernel
theorem dX5_takesVote_36 : decode cX5_takesVote 36 = .ok (.aload_n 0, 1) := by decide +kernel
theorem dX5_takesVote_37 : decode cX5_takesVote 37 = .ok (.getfield 44, 3) := by decide +kernel
theorem dX5_takesVote_40 : decode cX5_takesVote 40 = .ok (.iconst 5, 1) := by decide +kernel
theorem dX5_takesVote_41 : decode cX5_takesVote 41 = .ok (.iload_n 1, 1) := by decide +kernel
theorem dX5_takesVote_42 : decode cX5_takesVote 42 = .ok (.imul, 1) := by decide +kernel
theorem dX5_takesVote_43 : decode cX5_takesVote 43 = .ok (.iload_n 2, 1) := by decide +kernel
theorem dX5_takesVote_44 : decode cX5_takesVote 44 = .ok (.iadd, 1) := by decide +kernel
theorem dX5_takesVote_45 : decode cX5_takesVote 45 = .ok (.iload 4, 2) := by decide +kernel
theorem dX5_takesVote_47 : decode cX5_takesVote 47 = .ok (.iastore, 1) := by decide +kernel
theorem dX5_takesVote_48 : decode cX5_takesVote 48 = .ok (.aload_n 0, 1) := by decide +kernel
theorem dX5_takesVote_49 : decode cX5_takesVote 49 = .ok (.iload_n 3, 1) := by decide +kernel
theorem dX5_takesVote_50 : decode cX5_takesVote 50 = .ok (.iconst 5, 1) := by decide +kernel
theorem dX5_takesVote_51 : decode cX5_takesVote 51 = .ok (.iconst 5, 1) := by decide +kernel
theorem dX5_takesVote_52 : decode cX5_takesVote 52 = .ok (.iload_n 1, 1) := by decide +kernel
theorem dX5_takesVote_53 : decode cX5_takesVote 53 = .ok (.imul, 1) := by decide +kernel
theorem dX5_takesVote_54 : decode cX5_takesVote 54 = .ok (.iadd, 1) := by decide +kernel
theorem dX5_takesVote_55 : decode cX5_takesVote 55 = .ok (.iload_n 2, 1) := by decide +kernel
theorem dX5_takesVote_56 : decode cX5_takesVote 56 = .ok (.iadd, 1) := by decide +kernel
theorem dX5_takesVote_57 : decode cX5_takesVote 57 = .ok (.invokevirtual 98, 3) := by decide +kernel
theorem dX5_takesVote_60 : decode cX5_takesVote 60 = .ok (.aload_n 0, 1) := by decide +kernel
theorem dX5_takesVote_61 : decode cX5_takesVote 61 = .ok (.iload_n 1, 1) := by decide +kernel
theorem dX5_takesVote_62 : decode cX5_takesVote 62 = .ok (.invokevirtual 142, 3) := by decide +kernel
theorem dX5_takesVote_65 : decode cX5_takesVote 65 = .ok (.aload_n 0, 1) := by decide +kernel
theorem dX5_takesVote_66 : decode cX5_takesVote 66 = .ok (.getfield 81, 3) := by decide +kernel
theorem dX5_takesVote_69 : decode cX5_takesVote 69 = .ok (.iconst 1, 1) := by decide +kernel
theorem dX5_takesVote_70 : decode cX5_takesVote 70 = .ok (.iadd, 1) := by decide +kernel
theorem dX5_takesVote_71 : decode cX5_takesVote 71 = .ok (.if_icmp .lt 16, 3) := by decide +kernel
theorem dX5_takesVote_74 : decode cX5_takesVote 74 = .ok (.aload_n 0, 1) := by decide +kernel
theorem dX5_takesVote_75 : decode cX5_takesVote 75 = .ok (.getfield 41, 3) := by decide +kernel
theorem dX5_takesVote_78 : decode cX5_takesVote 78 = .ok (.iconst 5, 1) := by decide +kernel
theorem dX5_takesVote_79 : decode cX5_takesVote 79 = .ok (.iload_n 1, 1) := by decide +kernel
theorem dX5_takesVote_80 : decode cX5_takesVote 80 = .ok (.imul, 1) := by decide +kernel
theorem dX5_takesVote_81 : decode cX5_takesVote 81 = .ok (.iload_n 1, 1) := by decide +kernel
theorem dX5_takesVote_82 : decode cX5_takesVote 82 = .ok (.iadd, 1) := by decide +kernel
theorem dX5_takesVote_83 : decode cX5_takesVote 83 = .ok (.baload, 1) := by decide +kernel
theorem dX5_takesVote_84 : decode cX5_takesVote 84 = .ok (.ifCond .ne 5, 3) := by decide +kernel
theorem dX5_takesVote_87 : decode cX5_takesVote 87 = .ok (.iconst 1, 1) := by decide +kernel
theorem dX5_takesVote_88 : decode cX5_takesVote 88 = .ok (.ireturn, 1) := by decide +kernel
theorem dX5_takesVote_89 : decode cX5_takesVote 89 = .ok (.iconst (-1), 1) := by decide +kernel
theorem dX5_takesVote_90 : decode cX5_takesVote 90 = .ok (.istore 5, 2) := by decide +kernel
theorem dX5_takesVote_92 : decode cX5_takesVote 92 = .ok (.iconst 0, 1) := by decide +kernel
theorem dX5_takesVote_93 : decode cX5_takesVote 93 = .ok (.istore 6, 2) := by decide +kernel
theorem dX5_takesVote_95 : decode cX5_takesVote 95 = .ok (.iconst 0, 1) := by decide +kernel
theorem dX5_takesVote_96 : decode cX5_takesVote 96 = .ok (.istore 7, 2) := by decide +kernel
theorem dX5_takesVote_98 : decode cX5_takesVote 98 = .ok (.iload 7, 2) := by decide +kernel
theorem dX5_takesVote_100 : decode cX5_takesVote 100 = .ok (.aload_n 0, 1) := by decide +kernel
theorem dX5_takesVote_101 : decode cX5_takesVote 101 = .ok (.getfield 77, 3) := by decide +kernel
theorem dX5_takesVote_104 : decode cX5_takesVote 104 = .ok (.if_icmp .ge 167, 3) := by decide +kernel
theorem dX5_takesVote_107 : decode cX5_takesVote 107 = .ok (.aload_n 0, 1) := by decide +kernel
theorem dX5_takesVote_108 : decode cX5_takesVote 108 = .ok (.getfield 41, 3) := by decide +kernel
theorem dX5_takesVote_111 : decode cX5_takesVote 111 = .ok (.iconst 5, 1) := by decide +kernel
theorem dX5_takesVote_112 : decode cX5_takesVote 112 = .ok (.iload_n 1, 1) := by decide +kernel
theorem dX5_takesVote_113 : decode cX5_takesVote 113 = .ok (.imul, 1) := by decide +kernel
theorem dX5_takesVote_114 : decode cX5_takesVote 114 = .ok (.iload 7, 2) := by decide +kernel
theorem dX5_takesVote_116 : decode cX5_takesVote 116 = .ok (.iadd, 1) := by decide +kernel
theorem dX5_takesVote_117 : decode cX5_takesVote 117 = .ok (.baload, 1) := by decide +kernel
theorem dX5_takesVote_118 : decode cX5_takesVote 118 = .ok (.ifCond .eq 147, 3) := by decide +kernel
theorem dX5_takesVote_121 : decode cX5_takesVote 121 = .ok (.iload 6, 2) := by decide +kernel
theorem dX5_takesVote_123 : decode cX5_takesVote 123 = .ok (.aload_n 0, 1) := by decide +kernel
theorem dX5_takesVote_124 : decode cX5_takesVote 124 = .ok (.getfield 16, 3) := by decide +kernel
theorem dX5_takesVote_127 : decode cX5_takesVote 127 = .ok (.iconst 5, 1) := by decide +kernel
theorem dX5_takesVote_128 : decode cX5_takesVote 128 = .ok (.iconst 5, 1) := by decide +kernel
theorem dX5_takesVote_129 : decode cX5_takesVote 129 = .ok (.iload_n 1, 1) := by decide +kernel
theorem dX5_takesVote_130 : decode cX5_takesVote 130 = .ok (.imul, 1) := by decide +kernel
theorem dX5_takesVote_131 : decode cX5_takesVote 131 = .ok (.iadd, 1) := by decide +kernel
theorem dX5_takesVote_132 : decode cX5_takesVote 132 = .ok (.iload 7, 2) := by decide +kernel
theorem dX5_takesVote_134 : decode cX5_takesVote 134 = .ok (.iadd, 1) := by decide +kernel
theorem dX5_takesVote_135 : decode cX5_takesVote 135 = .ok (.iaload, 1) := by decide +kernel
theorem dX5_takesVote_136 : decode cX5_takesVote 136 = .ok (.invokestatic 106, 3) := by decide +kernel
theorem dX5_takesVote_139 : decode cX5_takesVote 139 = .ok (.istore 6, 2) := by decide +kernel
theorem dX5_takesVote_141 : decode cX5_takesVote 141 = .ok (.iload 5, 2) := by decide +kernel
theorem dX5_takesVote_143 : decode cX5_takesVote 143 = .ok (.iconst (-1), 1) := by decide +kernel
theorem dX5_takesVote_144 : decode cX5_takesVote 144 = .ok (.if_icmp .eq 28, 3) := by decide +kernel
theorem dX5_takesVote_147 : decode cX5_takesVote 147 = .ok (.aload_n 0, 1) := by decide +kernel
theorem dX5_takesVote_148 : decode cX5_takesVote 148 = .ok (.getfield 44, 3) := by decide +kernel
theorem dX5_takesVote_151 : decode cX5_takesVote 151 = .ok (.iconst 5, 1) := by decide +kernel
theorem dX5_takesVote_152 : decode cX5_takesVote 152 = .ok (.iload_n 1, 1) := by decide +kernel
theorem dX5_takesVote_153 : decode cX5_takesVote 153 = .ok (.imul, 1) := by decide +kernel
theorem dX5_takesVote_154 : decode cX5_takesVote 154 = .ok (.iload 7, 2) := by decide +kernel
theorem dX5_takesVote_156 : decode cX5_takesVote 156 = .ok (.iadd, 1) := by decide +kernel
theorem dX5_takesVote_157 : decode cX5_takesVote 157 = .ok (.iaload, 1) := by decide +kernel
theorem dX5_takesVote_158 : decode cX5_takesVote 158 = .ok (.aload_n 0, 1) := by decide +kernel
theorem dX5_takesVote_159 : decode cX5_takesVote 159 = .ok (.getfield 44, 3) := by decide +kernel
theorem dX5_takesVote_162 : decode cX5_takesVote 162 = .ok (.iconst 5, 1) := by decide +kernel
theorem dX5_takesVote_163 : decode cX5_takesVote 163 = .ok (.iload_n 1, 1) := by decide +kernel
theorem dX5_takesVote_164 : decode cX5_takesVote 164 = .ok (.imul, 1) := by decide +kernel
theorem dX5_takesVote_165 : decode cX5_takesVote 165 = .ok (.iload 5, 2) := by decide +kernel
theorem dX5_takesVote_167 : decode cX5_takesVote 167 = .ok (.iadd, 1) := by decide +kernel
theorem dX5_takesVote_168 : decode cX5_takesVote 168 = .ok (.iaload, 1) := by decide +kernel
theorem dX5_takesVote_169 : decode cX5_takesVote 169 = .ok (.if_icmp .le 7, 3) := by decide +kernel
theorem dX5_takesVote_172 : decode cX5_takesVote 172 = .ok (.iconst 1, 1) := by decide +kernel
theorem dX5_takesVote_173 : decode cX5_takesVote 173 = .ok (.goto 4, 3) := by decide +kernel
theorem dX5_takesVote_176 : decode cX5_takesVote 176 = .ok (.iconst 0, 1) := by decide +kernel
theorem dX5_takesVote_177 : decode cX5_takesVote 177 = .ok (.istore 8, 2) := by decide +kernel
theorem dX5_takesVote_179 : decode cX5_takesVote 179 = .ok (.iload 5, 2) := by decide +kernel
theorem dX5_takesVote_181 : decode cX5_takesVote 181 = .ok (.iconst (-1), 1) := by decide +kernel
theorem dX5_takesVote_182 : decode cX5_takesVote 182 = .ok (.if_icmp .eq 61, 3) := by decide +kernel
theorem dX5_takesVote_185 : decode cX5_takesVote 185 = .ok (.aload_n 0, 1) := by decide +kernel
theorem dX5_takesVote_186 : decode cX5_takesVote 186 = .ok (.getfield 44, 3) := by decide +kernel
theorem dX5_takesVote_189 : decode cX5_takesVote 189 = .ok (.iconst 5, 1) := by decide +kernel
theorem dX5_takesVote_190 : decode cX5_takesVote 190 = .ok (.iload_n 1, 1) := by decide +kernel
theorem dX5_takesVote_191 : decode cX5_takesVote 191 = .ok (.imul, 1) := by decide +kernel
theorem dX5_takesVote_192 : decode cX5_takesVote 192 = .ok (.iload 7, 2) := by decide +kernel
theorem dX5_takesVote_194 : decode cX5_takesVote 194 = .ok (.iadd, 1) := by decide +kernel
theorem dX5_takesVote_195 : decode cX5_takesVote 195 = .ok (.iaload, 1) := by decide +kernel
theorem dX5_takesVote_196 : decode cX5_takesVote 196 = .ok (.aload_n 0, 1) := by decide +kernel
theorem dX5_takesVote_197 : decode cX5_takesVote 197 = .ok (.getfield 44, 3) := by decide +kernel
theorem dX5_takesVote_200 : decode cX5_takesVote 200 = .ok (.iconst 5, 1) := by decide +kernel
theorem dX5_takesVote_201 : decode cX5_takesVote 201 = .ok (.iload_n 1, 1) := by decide +kernel
theorem dX5_takesVote_202 : decode cX5_takesVote 202 = .ok (.imul, 1) := by decide +kernel
theorem dX5_takesVote_203 : decode cX5_takesVote 203 = .ok (.iload 5, 2) := by decide +kernel
theorem dX5_takesVote_205 : decode cX5_takesVote 205 = .ok (.iadd, 1) := by decide +kernel
theorem dX5_takesVote_206 : decode cX5_takesVote 206 = .ok (.iaload, 1) := by decide +kernel
theorem dX5_takesVote_207 : decode cX5_takesVote 207 = .ok (.if_icmp .ne 36, 3) := by decide +kernel
theorem dX5_takesVote_210 : decode cX5_takesVote 210 = .ok (.aload_n 0, 1) := by decide +kernel
theorem dX5_takesVote_211 : decode cX5_takesVote 211 = .ok (.getfield 13, 3) := by decide +kernel
theorem dX5_takesVote_214 : decode cX5_takesVote 214 = .ok (.iconst 5, 1) := by decide +kernel
theorem dX5_takesVote_215 : decode cX5_takesVote 215 = .ok (.iconst 5, 1) := by decide +kernel
theorem dX5_takesVote_216 : decode cX5_takesVote 216 = .ok (.iload_n 1, 1) := by decide +kernel
theorem dX5_takesVote_217 : decode cX5_takesVote 217 = .ok (.imul, 1) := by decide +kernel
theorem dX5_takesVote_218 : decode cX5_takesVote 218 = .ok (.iadd, 1) := by decide +kernel
theorem dX5_takesVote_219 : decode cX5_takesVote 219 = .ok (.iload 7, 2) := by decide +kernel
theorem dX5_takesVote_221 : decode cX5_takesVote 221 = .ok (.iadd, 1) := by decide +kernel
theorem dX5_takesVote_222 : decode cX5_takesVote 222 = .ok (.iaload, 1) := by decide +kernel
theorem dX5_takesVote_223 : decode cX5_takesVote 223 = .ok (.aload_n 0, 1) := by decide +kernel
theorem dX5_takesVote_224 : decode cX5_takesVote 224 = .ok (.getfield 13, 3) := by decide +kernel
theorem dX5_takesVote_227 : decode cX5_takesVote 227 = .ok (.iconst 5, 1) := by decide +kernel
theorem dX5_takesVote_228 : decode cX5_takesVote 228 = .ok (.iconst 5, 1) := by decide +kernel
theorem dX5_takesVote_229 : decode cX5_takesVote 229 = .ok (.iload_n 1, 1) := by decide +kernel
theorem dX5_takesVote_230 : decode cX5_takesVote 230 = .ok (.imul, 1) := by decide +kernel
theorem dX5_takesVote_231 : decode cX5_takesVote 231 = .ok (.iadd, 1) := by decide +kernel
theorem dX5_takesVote_232 : decode cX5_takesVote 232 = .ok (.iload 5, 2) := by decide +kernel
theorem dX5_takesVote_234 : decode cX5_takesVote 234 = .ok (.iadd, 1) := by decide +kernel
theorem dX5_takesVote_235 : decode cX5_takesVote 235 = .ok (.iaload, 1) := by decide +kernel
theorem dX5_takesVote_236 : decode cX5_takesVote 236 = .ok (.if_icmp .le 7, 3) := by decide +kernel
theorem dX5_takesVote_239 : decode cX5_takesVote 239 = .ok (.iconst 1, 1) := by decide +kernel
theorem dX5_takesVote_240 : decode cX5_takesVote 240 = .ok (.goto 4, 3) := by decide +kernel
theorem dX5_takesVote_243 : decode cX5_takesVote 243 = .ok (.iconst 0, 1) := by decide +kernel
theorem dX5_takesVote_244 : decode cX5_takesVote 244 = .ok (.istore 9, 2) := by decide +kernel
theorem dX5_takesVote_246 : decode cX5_takesVote 246 = .ok (.iload 8, 2) := by decide +kernel
theorem dX5_takesVote_248 : decode cX5_takesVote 248 = .ok (.ifCond .ne 8, 3) := by decide +kernel
theorem dX5_takesVote_251 : decode cX5_takesVote 251 = .ok (.iload 9, 2) := by decide +kernel
theorem dX5_takesVote_253 : decode cX5_takesVote 253 = .ok (.ifCond .eq 8, 3) := by decide +kernel
theorem dX5_takesVote_256 : decode cX5_takesVote 256 = .ok (.iload 7, 2) := by decide +kernel
theorem dX5_takesVote_258 : decode cX5_takesVote 258 = .ok (.goto 5, 3) := by decide +kernel
theorem dX5_takesVote_261 : decode cX5_takesVote 261 = .ok (.iload 5, 2) := by decide +kernel
theorem dX5_takesVote_263 : decode cX5_takesVote 263 = .ok (.istore 5, 2) := by decide +kernel
theorem dX5_takesVote_265 : decode cX5_takesVote 265 = .ok (.iinc 7 1, 3) := by decide +kernel
theorem dX5_takesVote_268 : decode cX5_takesVote 268 = .ok (.goto (-170), 3) := by decide +kernel
theorem dX5_takesVote_271 : decode cX5_takesVote 271 = .ok (.aload_n 0, 1) := by decide +kernel
theorem dX5_takesVote_272 : decode cX5_takesVote 272 = .ok (.iconst 5, 1) := by decide +kernel
theorem dX5_takesVote_273 : decode cX5_takesVote 273 = .ok (.iconst 5, 1) := by decide +kernel
theorem dX5_takesVote_274 : decode cX5_takesVote 274 = .ok (.iload_n 1, 1) := by decide +kernel
theorem dX5_takesVote_275 : decode cX5_takesVote 275 = .ok (.imul, 1) := by decide +kernel
theorem dX5_takesVote_276 : decode cX5_takesVote 276 = .ok (.iadd, 1) := by decide +kernel
theorem dX5_takesVote_277 : decode cX5_takesVote 277 = .ok (.iload 5, 2) := by decide +kernel
theorem dX5_takesVote_279 : decode cX5_takesVote 279 = .ok (.iadd, 1) := by decide +kernel
theorem dX5_takesVote_280 : decode cX5_takesVote 280 = .ok (.iload_n 1, 1) := by decide +kernel
theorem dX5_takesVote_281 : decode cX5_takesVote 281 = .ok (.invokevirtual 98, 3) := by decide +kernel
theorem dX5_takesVote_284 : decode cX5_takesVote 284 = .ok (.aload_n 0, 1) := by decide +kernel
theorem dX5_takesVote_285 : decode cX5_takesVote 285 = .ok (.getfield 16, 3) := by decide +kernel
theorem dX5_takesVote_288 : decode cX5_takesVote 288 = .ok (.iload_n 1, 1) := by decide +kernel
theorem dX5_takesVote_289 : decode cX5_takesVote 289 = .ok (.iload 6, 2) := by decide +kernel
theorem dX5_takesVote_291 : decode cX5_takesVote 291 = .ok (.aload_n 0, 1) := by decide +kernel
theorem dX5_takesVote_292 : decode cX5_takesVote 292 = .ok (.getfield 13, 3) := by decide +kernel
theorem dX5_takesVote_295 : decode cX5_takesVote 295 = .ok (.iload_n 1, 1) := by decide +kernel
theorem dX5_takesVote_296 : decode cX5_takesVote 296 = .ok (.iaload, 1) := by decide +kernel
theorem dX5_takesVote_297 : decode cX5_takesVote 297 = .ok (.invokestatic 110, 3) := by decide +kernel
theorem dX5_takesVote_300 : decode cX5_takesVote 300 = .ok (.iastore, 1) := by decide +kernel
theorem dX5_takesVote_301 : decode cX5_takesVote 301 = .ok (.aload_n 0, 1) := by decide +kernel
theorem dX5_takesVote_302 : decode cX5_takesVote 302 = .ok (.getfield 19, 3) := by decide +kernel
theorem dX5_takesVote_305 : decode cX5_takesVote 305 = .ok (.iload_n 1, 1) := by decide +kernel
theorem dX5_takesVote_306 : decode cX5_takesVote 306 = .ok (.iconst 0, 1) := by decide +kernel
theorem dX5_takesVote_307 : decode cX5_takesVote 307 = .ok (.iastore, 1) := by decide +kernel
theorem dX5_takesVote_308 : decode cX5_takesVote 308 = .ok (.aload_n 0, 1) := by decide +kernel
theorem dX5_takesVote_309 : decode cX5_takesVote 309 = .ok (.getfield 25, 3) := by decide +kernel
theorem dX5_takesVote_312 : decode cX5_takesVote 312 = .ok (.iload_n 1, 1) := by decide +kernel
theorem dX5_takesVote_313 : decode cX5_takesVote 313 = .ok (.aload_n 0, 1) := by decide +kernel
theorem dX5_takesVote_314 : decode cX5_takesVote 314 = .ok (.getfield 22, 3) := by decide +kernel
theorem dX5_takesVote_317 : decode cX5_takesVote 317 = .ok (.iload_n 1, 1) := by decide +kernel
theorem dX5_takesVote_318 : decode cX5_takesVote 318 = .ok (.iaload, 1) := by decide +kernel
theorem dX5_takesVote_319 : decode cX5_takesVote 319 = .ok (.iastore, 1) := by decide +kernel
theorem dX5_takesVote_320 : decode cX5_takesVote 320 = .ok (.iconst 0, 1) := by decide +kernel
theorem dX5_takesVote_321 : decode cX5_takesVote 321 = .ok (.istore 7, 2) := by decide +kernel
theorem dX5_takesVote_323 : decode cX5_takesVote 323 = .ok (.iload 7, 2) := by decide +kernel
theorem dX5_takesVote_325 : decode cX5_takesVote 325 = .ok (.iconst 5, 1) := by decide +kernel
theorem dX5_takesVote_326 : decode cX5_takesVote 326 = .ok (.if_icmp .ge 21, 3) := by decide +kernel
theorem dX5_takesVote_329 : decode cX5_takesVote 329 = .ok (.aload_n 0, 1) := by decide +kernel
theorem dX5_takesVote_330 : decode cX5_takesVote 330 = .ok (.getfield 35, 3) := by decide +kernel
theorem dX5_takesVote_333 : decode cX5_takesVote 333 = .ok (.iconst 5, 1) := by decide +kernel
theorem dX5_takesVote_334 : decode cX5_takesVote 334 = .ok (.iload_n 1, 1) := by decide +kernel
theorem dX5_takesVote_335 : decode cX5_takesVote 335 = .ok (.imul, 1) := by decide +kernel
theorem dX5_takesVote_336 : decode cX5_takesVote 336 = .ok (.iload 7, 2) := by decide +kernel
theorem dX5_takesVote_338 : decode cX5_takesVote 338 = .ok (.iadd, 1) := by decide +kernel
theorem dX5_takesVote_339 : decode cX5_takesVote 339 = .ok (.iconst 0, 1) := by decide +kernel
theorem dX5_takesVote_340 : decode cX5_takesVote 340 = .ok (.iastore, 1) := by decide +kernel
theorem dX5_takesVote_341 : decode cX5_takesVote 341 = .ok (.iinc 7 1, 3) := by decide +kernel
theorem dX5_takesVote_344 : decode cX5_takesVote 344 = .ok (.goto (-21), 3) := by decide +kernel
theorem dX5_takesVote_347 : decode cX5_takesVote 347 = .ok (.aload_n 0, 1) := by decide +kernel
theorem dX5_takesVote_348 : decode cX5_takesVote 348 = .ok (.iload_n 1, 1) := by decide +kernel
theorem dX5_takesVote_349 : decode cX5_takesVote 349 = .ok (.iconst 5, 1) := by decide +kernel
theorem dX5_takesVote_350 : decode cX5_takesVote 350 = .ok (.aload_n 0, 1) := by decide +kernel
theorem dX5_takesVote_351 : decode cX5_takesVote 351 = .ok (.getfield 22, 3) := by decide +kernel
theorem dX5_takesVote_354 : decode cX5_takesVote 354 = .ok (.iload_n 1, 1) := by decide +kernel
theorem dX5_takesVote_355 : decode cX5_takesVote 355 = .ok (.iaload, 1) := by decide +kernel
theorem dX5_takesVote_356 : decode cX5_takesVote 356 = .ok (.iconst 0, 1) := by decide +kernel
theorem dX5_takesVote_357 : decode cX5_takesVote 357 = .ok (.invokevirtual 127, 3) := by decide +kernel
theorem dX5_takesVote_360 : decode cX5_takesVote 360 = .ok (.istore 7, 2) := by decide +kernel
theorem dX5_takesVote_362 : decode cX5_takesVote 362 = .ok (.iconst 1, 1) := by decide +kernel
theorem dX5_takesVote_363 : decode cX5_takesVote 363 = .ok (.ireturn, 1) := by decide +kernel
set_option maxRecDepth 20000 in
theorem ggX5_isVoted_X5_changes : GoodIn wsX5_isVoted wsX5_changes := goodIn_r _ [7, 2, 8, 9, 10, 11, 6, 12, 13, 14, 15, 16, 17, 18, 19, 1, 20, 21, 22, 23, 24, 25, 26, 27, 28, 29, 30, 31, 32, 33, 34, 35, 36, 37, 38, 39, 40, 59, 60, 61, 62, 63, 64, 65, 66, 67, 68, 69, 70, 71, 72, 73, 74, 75, 76, 77, 78, 79, 80, 81, 82, 83, 84] (by decide +kernel) (by decide +kernel)
set_option maxRecDepth 20000 in
theorem gX5_isVoted_X5_changes : GoodIn wsX5_isVoted (wsV RX5 131 RX5 yX5_changes wsX5_changes) := goodIn_app (goodIn_of _ (by decide +kernel)) ggX5_isVoted_X5_changes
set_option maxRecDepth 20000 in
theorem ggX5_isVoted_X5_takesVote : GoodIn wsX5_isVoted wsX5_takesVote := goodIn_r _ [44, 8, 14, 45, 46, 1, 39, 38, 47, 2, 48, 34, 35, 36, 6, 37, 40, 49, 50, 51, 52, 53, 54, 55, 56, 57, 58, 16, 17, 18, 19, 20, 21, 22, 23, 24, 25, 26, 27, 28, 29, 30, 31, 32, 33, 59, 60, 61, 62, 63, 64, 65, 66, 67, 68, 69, 70, 71, 72, 73, 74, 75, 76, 77, 78, 79, 80, 81, 82, 83, 84] (by decide +kernel) (by decide +kernel)
set_option maxRecDepth 20000 in
theorem gX5_isVoted_X5_takesVote : GoodIn wsX5_isVoted (wsV RX5 138 RX5 yX5_takesVote wsX5_takesVote) := goodIn_app (goodIn_of _ (by decide +kernel)) ggX5_isVoted_X5_takesVote
theorem dX5_isVoted_0 : decode cX5_isVoted 0 = .ok (.iload 4, 2) := by decide +kernel
theorem dX5_isVoted_2 : decode cX5_isVoted 2 = .ok (.aload_n 0, 1) := by decide +kernel
theorem dX5_isVoted_3 : decode cX5_isVoted 3 = .ok (.getfield 77, 3) := by decide +kernel
theorem dX5_isVoted_6 : decode cX5_isVoted 6 = .ok (.irem, 1) := by decide +kernel
theorem dX5_isVoted_7 : decode cX5_isVoted 7 = .ok (.iload_n 1, 1) := by decide +kernel
theorem dX5_isVoted_8 : decode cX5_isVoted 8 = .ok (.if_icmp .eq 5, 3) := by decide +kernel
theorem dX5_isVoted_11 : decode cX5_isVoted 11 = .ok (.iconst 0, 1) := by decide +kernel
theorem dX5_isVoted_12 : decode cX5_isVoted 12 = .ok (.ireturn, 1) := by decide +kernel
theorem dX5_isVoted_13 : decode cX5_isVoted 13 = .ok (.iload 4, 2) := by decide +kernel
theorem dX5_isVoted_15 : decode cX5_isVoted 15 = .ok (.aload_n 0, 1) := by decide +kernel
theorem dX5_isVoted_16 : decode cX5_isVoted 16 = .ok (.getfield 22, 3) := by decide +kernel
theorem dX5_isVoted_19 : decode cX5_isVoted 19 = .ok (.iload_n 1, 1) := by decide +kernel
theorem dX5_isVoted_20 : decode cX5_isVoted 20 = .ok (.iaload, 1) := by decide +kernel
theorem dX5_isVoted_21 : decode cX5_isVoted 21 = .ok (.if_icmp .le 7, 3) := by decide +kernel
theorem dX5_isVoted_24 : decode cX5_isVoted 24 = .ok (.iconst 1, 1) := by decide +kernel
theorem dX5_isVoted_25 : decode cX5_isVoted 25 = .ok (.goto 4, 3) := by decide +kernel
theorem dX5_isVoted_28 : decode cX5_isVoted 28 = .ok (.iconst 0, 1) := by decide +kernel
theorem dX5_isVoted_29 : decode cX5_isVoted 29 = .ok (.istore 6, 2) := by decide +kernel
theorem dX5_isVoted_31 : decode cX5_isVoted 31 = .ok (.iload 6, 2) := by decide +kernel
theorem dX5_isVoted_33 : decode cX5_isVoted 33 = .ok (.ifCond .eq 10, 3) := by decide +kernel
theorem dX5_isVoted_36 : decode cX5_isVoted 36 = .ok (.aload_n 0, 1) := by decide +kernel
theorem dX5_isVoted_37 : decode cX5_isVoted 37 = .ok (.iload_n 1, 1) := by decide +kernel
theorem dX5_isVoted_38 : decode cX5_isVoted 38 = .ok (.iload 4, 2) := by decide +kernel
theorem dX5_isVoted_40 : decode cX5_isVoted 40 = .ok (.invokevirtual 131, 3) := by decide +kernel
theorem dX5_isVoted_43 : decode cX5_isVoted 43 = .ok (.aload_n 0, 1) := by decide +kernel
theorem dX5_isVoted_44 : decode cX5_isVoted 44 = .ok (.iload_n 1, 1) := by decide +kernel
theorem dX5_isVoted_45 : decode cX5_isVoted 45 = .ok (.iload_n 2, 1) := by decide +kernel
theorem dX5_isVoted_46 : decode cX5_isVoted 46 = .ok (.iload_n 3, 1) := by decide +kernel
theorem dX5_isVoted_47 : decode cX5_isVoted 47 = .ok (.iload 5, 2) := by decide +kernel
theorem dX5_isVoted_49 : decode cX5_isVoted 49 = .ok (.invokevirtual 138, 3) := by decide +kernel
theorem dX5_isVoted_52 : decode cX5_isVoted 52 = .ok (.ifCond .ne 8, 3) := by decide +kernel
theorem dX5_isVoted_55 : decode cX5_isVoted 55 = .ok (.iload 6, 2) := by decide +kernel
theorem dX5_isVoted_57 : decode cX5_isVoted 57 = .ok (.ifCond .eq 7, 3) := by decide +kernel
theorem dX5_isVoted_60 : decode cX5_isVoted 60 = .ok (.iconst 1, 1) := by decide +kernel
theorem dX5_isVoted_61 : decode cX5_isVoted 61 = .ok (.goto 4, 3) := by decide +kernel
theorem dX5_isVoted_64 : decode cX5_isVoted 64 = .ok (.iconst 0, 1) := by decide +kernel
theorem dX5_isVoted_65 : decode cX5_isVoted 65 = .ok (.ireturn, 1) := by decide +kernel
set_option maxRecDepth 20000 in
theorem ggX5_hearsTale_X5_copyLog : GoodIn wsX5_hearsTale wsX5_copyLog := goodIn_r _ [13, 14, 15, 16, 20, 21, 22, 23, 24, 25, 26, 27, 28, 29, 30, 31, 32, 33, 34, 35, 36, 37, 38, 39, 40, 41, 42, 43, 44, 45] (by decide +kernel) (by decide +kernel)
set_option maxRecDepth 20000 in
theorem gX5_hearsTale_X5_copyLog : GoodIn wsX5_hearsTale (wsV RX5 98 RX5 yX5_copyLog wsX5_copyLog) := goodIn_app (goodIn_of _ (by decide +kernel)) ggX5_hearsTale_X5_copyLog
set_option maxRecDepth 20000 in
theorem ggX5_hearsTale_X5_greater : GoodIn wsX5_hearsTale wsX5_greater := goodIn_r _ [19] (by decide +kernel) (by decide +kernel)
set_option maxRecDepth 20000 in
theorem gX5_hearsTale_X5_greater : GoodIn wsX5_hearsTale (va_wsS RX5 106 yX5_greater wsX5_greater) := goodIn_app (goodIn_of _ (by decide +kernel)) ggX5_hearsTale_X5_greater
theorem dX5_hearsTale_0 : decode cX5_hearsTale 0 = .ok (.aload_n 0, 1) := by decide +kernel
theorem dX5_hearsTale_1 : decode cX5_hearsTale 1 = .ok (.getfield 19, 3) := by decide +kernel
theorem dX5_hearsTale_4 : decode cX5_hearsTale 4 = .ok (.iload_n 1, 1) := by decide +kernel
theorem dX5_hearsTale_5 : decode cX5_hearsTale 5 = .ok (.iaload, 1) := by decide +kernel
theorem dX5_hearsTale_6 : decode cX5_hearsTale 6 = .ok (.iconst 2, 1) := by decide +kernel
theorem dX5_hearsTale_7 : decode cX5_hearsTale 7 = .ok (.if_icmp .ne 14, 3) := by decide +kernel
theorem dX5_hearsTale_10 : decode cX5_hearsTale 10 = .ok (.aload_n 0, 1) := by decide +kernel
theorem dX5_hearsTale_11 : decode cX5_hearsTale 11 = .ok (.getfield 32, 3) := by decide +kernel
theorem dX5_hearsTale_14 : decode cX5_hearsTale 14 = .ok (.iload_n 1, 1) := by decide +kernel
theorem dX5_hearsTale_15 : decode cX5_hearsTale 15 = .ok (.iaload, 1) := by decide +kernel
theorem dX5_hearsTale_16 : decode cX5_hearsTale 16 = .ok (.iload 5, 2) := by decide +kernel
theorem dX5_hearsTale_18 : decode cX5_hearsTale 18 = .ok (.if_icmp .eq 5, 3) := by decide +kernel
theorem dX5_hearsTale_21 : decode cX5_hearsTale 21 = .ok (.iconst 0, 1) := by decide +kernel
theorem dX5_hearsTale_22 : decode cX5_hearsTale 22 = .ok (.ireturn, 1) := by decide +kernel
theorem dX5_hearsTale_23 : decode cX5_hearsTale 23 = .ok (.aload_n 0, 1) := by decide +kernel
theorem dX5_hearsTale_24 : decode cX5_hearsTale 24 = .ok (.getfield 47, 3) := by decide +kernel
theorem dX5_hearsTale_27 : decode cX5_hearsTale 27 = .ok (.iconst 5, 1) := by decide +kernel
theorem dX5_hearsTale_28 : decode cX5_hearsTale 28 = .ok (.iload_n 1, 1) := by decide +kernel
theorem dX5_hearsTale_29 : decode cX5_hearsTale 29 = .ok (.imul, 1) := by decide +kernel
theorem dX5_hearsTale_30 : decode cX5_hearsTale 30 = .ok (.iload_n 2, 1) := by decide +kernel
theorem dX5_hearsTale_31 : decode cX5_hearsTale 31 = .ok (.iadd, 1) := by decide +kernel
theorem dX5_hearsTale_32 : decode cX5_hearsTale 32 = .ok (.iconst 1, 1) := by decide +kernel
theorem dX5_hearsTale_33 : decode cX5_hearsTale 33 = .ok (.bastore, 1) := by decide +kernel
theorem dX5_hearsTale_34 : decode cX5_hearsTale 34 = .ok (.aload_n 0, 1) := by decide +kernel
theorem dX5_hearsTale_35 : decode cX5_hearsTale 35 = .ok (.getfield 50, 3) := by decide +kernel
theorem dX5_hearsTale_38 : decode cX5_hearsTale 38 = .ok (.iconst 5, 1) := by decide +kernel
theorem dX5_hearsTale_39 : decode cX5_hearsTale 39 = .ok (.iload_n 1, 1) := by decide +kernel
theorem dX5_hearsTale_40 : decode cX5_hearsTale 40 = .ok (.imul, 1) := by decide +kernel
theorem dX5_hearsTale_41 : decode cX5_hearsTale 41 = .ok (.iload_n 2, 1) := by decide +kernel
theorem dX5_hearsTale_42 : decode cX5_hearsTale 42 = .ok (.iadd, 1) := by decide +kernel
theorem dX5_hearsTale_43 : decode cX5_hearsTale 43 = .ok (.iload 4, 2) := by decide +kernel
theorem dX5_hearsTale_45 : decode cX5_hearsTale 45 = .ok (.iastore, 1) := by decide +kernel
theorem dX5_hearsTale_46 : decode cX5_hearsTale 46 = .ok (.aload_n 0, 1) := by decide +kernel
theorem dX5_hearsTale_47 : decode cX5_hearsTale 47 = .ok (.iload_n 3, 1) := by decide +kernel
theorem dX5_hearsTale_48 : decode cX5_hearsTale 48 = .ok (.bipush 30, 2) := by decide +kernel
theorem dX5_hearsTale_50 : decode cX5_hearsTale 50 = .ok (.iconst 5, 1) := by decide +kernel
theorem dX5_hearsTale_51 : decode cX5_hearsTale 51 = .ok (.iload_n 1, 1) := by decide +kernel
theorem dX5_hearsTale_52 : decode cX5_hearsTale 52 = .ok (.imul, 1) := by decide +kernel
theorem dX5_hearsTale_53 : decode cX5_hearsTale 53 = .ok (.iadd, 1) := by decide +kernel
theorem dX5_hearsTale_54 : decode cX5_hearsTale 54 = .ok (.iload_n 2, 1) := by decide +kernel
theorem dX5_hearsTale_55 : decode cX5_hearsTale 55 = .ok (.iadd, 1) := by decide +kernel
theorem dX5_hearsTale_56 : decode cX5_hearsTale 56 = .ok (.invokevirtual 98, 3) := by decide +kernel
theorem dX5_hearsTale_59 : decode cX5_hearsTale 59 = .ok (.iconst 0, 1) := by decide +kernel
theorem dX5_hearsTale_60 : decode cX5_hearsTale 60 = .ok (.istore 6, 2) := by decide +kernel
theorem dX5_hearsTale_62 : decode cX5_hearsTale 62 = .ok (.iconst 0, 1) := by decide +kernel
theorem dX5_hearsTale_63 : decode cX5_hearsTale 63 = .ok (.istore 7, 2) := by decide +kernel
theorem dX5_hearsTale_65 : decode cX5_hearsTale 65 = .ok (.iconst 0, 1) := by decide +kernel
theorem dX5_hearsTale_66 : decode cX5_hearsTale 66 = .ok (.istore 8, 2) := by decide +kernel
theorem dX5_hearsTale_68 : decode cX5_hearsTale 68 = .ok (.iload 8, 2) := by decide +kernel
theorem dX5_hearsTale_70 : decode cX5_hearsTale 70 = .ok (.aload_n 0, 1) := by decide +kernel
theorem dX5_hearsTale_71 : decode cX5_hearsTale 71 = .ok (.getfield 77, 3) := by decide +kernel
theorem dX5_hearsTale_74 : decode cX5_hearsTale 74 = .ok (.if_icmp .ge 44, 3) := by decide +kernel
theorem dX5_hearsTale_77 : decode cX5_hearsTale 77 = .ok (.aload_n 0, 1) := by decide +kernel
theorem dX5_hearsTale_78 : decode cX5_hearsTale 78 = .ok (.getfield 47, 3) := by decide +kernel
theorem dX5_hearsTale_81 : decode cX5_hearsTale 81 = .ok (.iconst 5, 1) := by decide +kernel
theorem dX5_hearsTale_82 : decode cX5_hearsTale 82 = .ok (.iload_n 1, 1) := by decide +kernel
theorem dX5_hearsTale_83 : decode cX5_hearsTale 83 = .ok (.imul, 1) := by decide +kernel
theorem dX5_hearsTale_84 : decode cX5_hearsTale 84 = .ok (.iload 8, 2) := by decide +kernel
theorem dX5_hearsTale_86 : decode cX5_hearsTale 86 = .ok (.iadd, 1) := by decide +kernel
theorem dX5_hearsTale_87 : decode cX5_hearsTale 87 = .ok (.baload, 1) := by decide +kernel
theorem dX5_hearsTale_88 : decode cX5_hearsTale 88 = .ok (.ifCond .eq 24, 3) := by decide +kernel
theorem dX5_hearsTale_91 : decode cX5_hearsTale 91 = .ok (.iinc 6 1, 3) := by decide +kernel
theorem dX5_hearsTale_94 : decode cX5_hearsTale 94 = .ok (.iload 7, 2) := by decide +kernel
theorem dX5_hearsTale_96 : decode cX5_hearsTale 96 = .ok (.aload_n 0, 1) := by decide +kernel
theorem dX5_hearsTale_97 : decode cX5_hearsTale 97 = .ok (.getfield 50, 3) := by decide +kernel
theorem dX5_hearsTale_100 : decode cX5_hearsTale 100 = .ok (.iconst 5, 1) := by decide +kernel
theorem dX5_hearsTale_101 : decode cX5_hearsTale 101 = .ok (.iload_n 1, 1) := by decide +kernel
theorem dX5_hearsTale_102 : decode cX5_hearsTale 102 = .ok (.imul, 1) := by decide +kernel
theorem dX5_hearsTale_103 : decode cX5_hearsTale 103 = .ok (.iload 8, 2) := by decide +kernel
theorem dX5_hearsTale_105 : decode cX5_hearsTale 105 = .ok (.iadd, 1) := by decide +kernel
theorem dX5_hearsTale_106 : decode cX5_hearsTale 106 = .ok (.iaload, 1) := by decide +kernel
theorem dX5_hearsTale_107 : decode cX5_hearsTale 107 = .ok (.invokestatic 106, 3) := by decide +kernel
theorem dX5_hearsTale_110 : decode cX5_hearsTale 110 = .ok (.istore 7, 2) := by decide +kernel
theorem dX5_hearsTale_112 : decode cX5_hearsTale 112 = .ok (.iinc 8 1, 3) := by decide +kernel
theorem dX5_hearsTale_115 : decode cX5_hearsTale 115 = .ok (.goto (-47), 3) := by decide +kernel
theorem dX5_hearsTale_118 : decode cX5_hearsTale 118 = .ok (.iload 7, 2) := by decide +kernel
theorem dX5_hearsTale_120 : decode cX5_hearsTale 120 = .ok (.aload_n 0, 1) := by decide +kernel
theorem dX5_hearsTale_121 : decode cX5_hearsTale 121 = .ok (.getfield 77, 3) := by decide +kernel
theorem dX5_hearsTale_124 : decode cX5_hearsTale 124 = .ok (.irem, 1) := by decide +kernel
theorem dX5_hearsTale_125 : decode cX5_hearsTale 125 = .ok (.istore 8, 2) := by decide +kernel
theorem dX5_hearsTale_127 : decode cX5_hearsTale 127 = .ok (.iload 6, 2) := by decide +kernel
theorem dX5_hearsTale_129 : decode cX5_hearsTale 129 = .ok (.aload_n 0, 1) := by decide +kernel
theorem dX5_hearsTale_130 : decode cX5_hearsTale 130 = .ok (.getfield 81, 3) := by decide +kernel
theorem dX5_hearsTale_133 : decode cX5_hearsTale 133 = .ok (.if_icmp .le 70, 3) := by decide +kernel
theorem dX5_hearsTale_136 : decode cX5_hearsTale 136 = .ok (.aload_n 0, 1) := by decide +kernel
theorem dX5_hearsTale_137 : decode cX5_hearsTale 137 = .ok (.getfield 47, 3) := by decide +kernel
theorem dX5_hearsTale_140 : decode cX5_hearsTale 140 = .ok (.iconst 5, 1) := by decide +kernel
theorem dX5_hearsTale_141 : decode cX5_hearsTale 141 = .ok (.iload_n 1, 1) := by decide +kernel
theorem dX5_hearsTale_142 : decode cX5_hearsTale 142 = .ok (.imul, 1) := by decide +kernel
theorem dX5_hearsTale_143 : decode cX5_hearsTale 143 = .ok (.iload 8, 2) := by decide +kernel
theorem dX5_hearsTale_145 : decode cX5_hearsTale 145 = .ok (.iadd, 1) := by decide +kernel
theorem dX5_hearsTale_146 : decode cX5_hearsTale 146 = .ok (.baload, 1) := by decide +kernel
theorem dX5_hearsTale_147 : decode cX5_hearsTale 147 = .ok (.ifCond .eq 56, 3) := by decide +kernel
theorem dX5_hearsTale_150 : decode cX5_hearsTale 150 = .ok (.aload_n 0, 1) := by decide +kernel
theorem dX5_hearsTale_151 : decode cX5_hearsTale 151 = .ok (.getfield 50, 3) := by decide +kernel
theorem dX5_hearsTale_154 : decode cX5_hearsTale 154 = .ok (.iconst 5, 1) := by decide +kernel
theorem dX5_hearsTale_155 : decode cX5_hearsTale 155 = .ok (.iload_n 1, 1) := by decide +kernel
theorem dX5_hearsTale_156 : decode cX5_hearsTale 156 = .ok (.imul, 1) := by decide +kernel
theorem dX5_hearsTale_157 : decode cX5_hearsTale 157 = .ok (.iload 8, 2) := by decide +kernel
theorem dX5_hearsTale_159 : decode cX5_hearsTale 159 = .ok (.iadd, 1) := by decide +kernel
theorem dX5_hearsTale_160 : decode cX5_hearsTale 160 = .ok (.iaload, 1) := by decide +kernel
theorem dX5_hearsTale_161 : decode cX5_hearsTale 161 = .ok (.iload 7, 2) := by decide +kernel
theorem dX5_hearsTale_163 : decode cX5_hearsTale 163 = .ok (.if_icmp .ne 40, 3) := by decide +kernel
theorem dX5_hearsTale_166 : decode cX5_hearsTale 166 = .ok (.aload_n 0, 1) := by decide +kernel
theorem dX5_hearsTale_167 : decode cX5_hearsTale 167 = .ok (.bipush 30, 2) := by decide +kernel
theorem dX5_hearsTale_169 : decode cX5_hearsTale 169 = .ok (.iconst 5, 1) := by decide +kernel
theorem dX5_hearsTale_170 : decode cX5_hearsTale 170 = .ok (.iload_n 1, 1) := by decide +kernel
theorem dX5_hearsTale_171 : decode cX5_hearsTale 171 = .ok (.imul, 1) := by decide +kernel
theorem dX5_hearsTale_172 : decode cX5_hearsTale 172 = .ok (.iadd, 1) := by decide +kernel
theorem dX5_hearsTale_173 : decode cX5_hearsTale 173 = .ok (.iload 8, 2) := by decide +kernel
theorem dX5_hearsTale_175 : decode cX5_hearsTale 175 = .ok (.iadd, 1) := by decide +kernel
theorem dX5_hearsTale_176 : decode cX5_hearsTale 176 = .ok (.iload_n 1, 1) := by decide +kernel
theorem dX5_hearsTale_177 : decode cX5_hearsTale 177 = .ok (.invokevirtual 98, 3) := by decide +kernel
theorem dX5_hearsTale_180 : decode cX5_hearsTale 180 = .ok (.aload_n 0, 1) := by decide +kernel
theorem dX5_hearsTale_181 : decode cX5_hearsTale 181 = .ok (.getfield 22, 3) := by decide +kernel
theorem dX5_hearsTale_184 : decode cX5_hearsTale 184 = .ok (.iload_n 1, 1) := by decide +kernel
theorem dX5_hearsTale_185 : decode cX5_hearsTale 185 = .ok (.iload 7, 2) := by decide +kernel
theorem dX5_hearsTale_187 : decode cX5_hearsTale 187 = .ok (.iastore, 1) := by decide +kernel
theorem dX5_hearsTale_188 : decode cX5_hearsTale 188 = .ok (.aload_n 0, 1) := by decide +kernel
theorem dX5_hearsTale_189 : decode cX5_hearsTale 189 = .ok (.getfield 25, 3) := by decide +kernel
theorem dX5_hearsTale_192 : decode cX5_hearsTale 192 = .ok (.iload_n 1, 1) := by decide +kernel
theorem dX5_hearsTale_193 : decode cX5_hearsTale 193 = .ok (.iload 7, 2) := by decide +kernel
theorem dX5_hearsTale_195 : decode cX5_hearsTale 195 = .ok (.iastore, 1) := by decide +kernel
theorem dX5_hearsTale_196 : decode cX5_hearsTale 196 = .ok (.aload_n 0, 1) := by decide +kernel
theorem dX5_hearsTale_197 : decode cX5_hearsTale 197 = .ok (.getfield 19, 3) := by decide +kernel
theorem dX5_hearsTale_200 : decode cX5_hearsTale 200 = .ok (.iload_n 1, 1) := by decide +kernel
theorem dX5_hearsTale_201 : decode cX5_hearsTale 201 = .ok (.iconst 0, 1) := by decide +kernel
theorem dX5_hearsTale_202 : decode cX5_hearsTale 202 = .ok (.iastore, 1) := by decide +kernel
theorem dX5_hearsTale_203 : decode cX5_hearsTale 203 = .ok (.iconst 1, 1) := by decide +kernel
theorem dX5_hearsTale_204 : decode cX5_hearsTale 204 = .ok (.ireturn, 1) := by decide +kernel
theorem dX5_isNew_0 : decode cX5_isNew 0 = .ok (.iconst 0, 1) := by decide +kernel
theorem dX5_isNew_1 : decode cX5_isNew 1 = .ok (.istore 4, 2) := by decide +kernel
theorem dX5_isNew_3 : decode cX5_isNew 3 = .ok (.iload 4, 2) := by decide +kernel
theorem dX5_isNew_5 : decode cX5_isNew 5 = .ok (.aload_n 0, 1) := by decide +kernel
theorem dX5_isNew_6 : decode cX5_isNew 6 = .ok (.getfield 13, 3) := by decide +kernel
theorem dX5_isNew_9 : decode cX5_isNew 9 = .ok (.iload_n 1, 1) := by decide +kernel
theorem dX5_isNew_10 : decode cX5_isNew 10 = .ok (.iaload, 1) := by decide +kernel
theorem dX5_isNew_11 : decode cX5_isNew 11 = .ok (.if_icmp .ge 47, 3) := by decide +kernel
theorem dX5_isNew_14 : decode cX5_isNew 14 = .ok (.bipush 96, 2) := by decide +kernel
theorem dX5_isNew_16 : decode cX5_isNew 16 = .ok (.iload_n 1, 1) := by decide +kernel
theorem dX5_isNew_17 : decode cX5_isNew 17 = .ok (.imul, 1) := by decide +kernel
theorem dX5_isNew_18 : decode cX5_isNew 18 = .ok (.bipush 6, 2) := by decide +kernel
theorem dX5_isNew_20 : decode cX5_isNew 20 = .ok (.iload 4, 2) := by decide +kernel
theorem dX5_isNew_22 : decode cX5_isNew 22 = .ok (.imul, 1) := by decide +kernel
theorem dX5_isNew_23 : decode cX5_isNew 23 = .ok (.iadd, 1) := by decide +kernel
theorem dX5_isNew_24 : decode cX5_isNew 24 = .ok (.istore 5, 2) := by decide +kernel
theorem dX5_isNew_26 : decode cX5_isNew 26 = .ok (.aload_n 0, 1) := by decide +kernel
theorem dX5_isNew_27 : decode cX5_isNew 27 = .ok (.getfield 7, 3) := by decide +kernel
theorem dX5_isNew_30 : decode cX5_isNew 30 = .ok (.iload 5, 2) := by decide +kernel
theorem dX5_isNew_32 : decode cX5_isNew 32 = .ok (.iaload, 1) := by decide +kernel
theorem dX5_isNew_33 : decode cX5_isNew 33 = .ok (.iload_n 2, 1) := by decide +kernel
theorem dX5_isNew_34 : decode cX5_isNew 34 = .ok (.if_icmp .ne 18, 3) := by decide +kernel
theorem dX5_isNew_37 : decode cX5_isNew 37 = .ok (.aload_n 0, 1) := by decide +kernel
theorem dX5_isNew_38 : decode cX5_isNew 38 = .ok (.getfield 7, 3) := by decide +kernel
theorem dX5_isNew_41 : decode cX5_isNew 41 = .ok (.iload 5, 2) := by decide +kernel
theorem dX5_isNew_43 : decode cX5_isNew 43 = .ok (.iconst 1, 1) := by decide +kernel
theorem dX5_isNew_44 : decode cX5_isNew 44 = .ok (.iadd, 1) := by decide +kernel
theorem dX5_isNew_45 : decode cX5_isNew 45 = .ok (.iaload, 1) := by decide +kernel
theorem dX5_isNew_46 : decode cX5_isNew 46 = .ok (.iload_n 3, 1) := by decide +kernel
theorem dX5_isNew_47 : decode cX5_isNew 47 = .ok (.if_icmp .lt 5, 3) := by decide +kernel
theorem dX5_isNew_50 : decode cX5_isNew 50 = .ok (.iconst 0, 1) := by decide +kernel
theorem dX5_isNew_51 : decode cX5_isNew 51 = .ok (.ireturn, 1) := by decide +kernel
theorem dX5_isNew_52 : decode cX5_isNew 52 = .ok (.iinc 4 1, 3) := by decide +kernel
theorem dX5_isNew_55 : decode cX5_isNew 55 = .ok (.goto (-52), 3) := by decide +kernel
theorem dX5_isNew_58 : decode cX5_isNew 58 = .ok (.iconst 1, 1) := by decide +kernel
theorem dX5_isNew_59 : decode cX5_isNew 59 = .ok (.ireturn, 1) := by decide +kernel
set_option maxRecDepth 20000 in
theorem ggX5_request_X5_isNode : GoodIn wsX5_request wsX5_isNode := goodIn_r _ [10, 11, 12, 13, 9, 14, 46, 47, 48, 49, 50, 51, 52, 53, 54, 55, 56, 57, 58, 59, 60, 61, 62, 63, 64, 65, 66, 67, 68, 69, 70, 71] (by decide +kernel) (by decide +kernel)
set_option maxRecDepth 20000 in
theorem gX5_request_X5_isNode : GoodIn wsX5_request (wsV RX5 145 RX5 yX5_isNode wsX5_isNode) := goodIn_app (goodIn_of _ (by decide +kernel)) ggX5_request_X5_isNode
set_option maxRecDepth 20000 in
theorem ggX5_request_X5_in : GoodIn wsX5_request wsX5_in := goodIn_r _ [14] (by decide +kernel) (by decide +kernel)
set_option maxRecDepth 20000 in
theorem gX5_request_X5_in : GoodIn wsX5_request (va_wsS RX5 84 yX5_in wsX5_in) := goodIn_app (goodIn_of _ (by decide +kernel)) ggX5_request_X5_in
set_option maxRecDepth 20000 in
theorem ggX5_request_X5_isFirst : GoodIn wsX5_request wsX5_isFirst := goodIn_r _ [18, 5, 11, 46, 47, 48, 49, 50, 51, 52, 53, 54, 55, 56, 57, 58, 59, 60, 61, 62, 63, 64, 65, 66, 67, 68, 69, 70, 71] (by decide +kernel) (by decide +kernel)
set_option maxRecDepth 20000 in
theorem gX5_request_X5_isFirst : GoodIn wsX5_request (wsV RX5 121 RX5 yX5_isFirst wsX5_isFirst) := goodIn_app (goodIn_of _ (by decide +kernel)) ggX5_request_X5_isFirst
set_option maxRecDepth 20000 in
theorem ggX5_request_X5_isNew : GoodIn wsX5_request wsX5_isNew := goodIn_r _ [22, 3, 4, 46, 47, 48, 49, 50, 51, 52, 53, 54, 55, 56, 57, 58, 59, 60, 61, 62, 63, 64, 65, 66, 67, 68, 69, 70, 71] (by decide +kernel) (by decide +kernel)
set_option maxRecDepth 20000 in
theorem gX5_request_X5_isNew : GoodIn wsX5_request (wsV RX5 149 RX5 yX5_isNew wsX5_isNew) := goodIn_app (goodIn_of _ (by decide +kernel)) ggX5_request_X5_isNew
set_option maxRecDepth 20000 in
theorem ggX5_request_X5_postAll : GoodIn wsX5_request wsX5_postAll := goodIn_r _ [26, 11, 27, 28, 29, 9, 30, 31, 32, 33, 34, 35, 36, 37, 38, 39, 40, 41, 42, 43, 44, 3, 45, 4, 46, 47, 48, 49, 50, 51, 52, 53, 54, 55, 56, 57, 58, 59, 60, 61, 62, 63, 64, 65, 66, 67, 68, 69, 70, 71] (by decide +kernel) (by decide +kernel)
set_option maxRecDepth 20000 in
theorem gX5_request_X5_postAll : GoodIn wsX5_request (wsV RX5 127 RX5 yX5_postAll wsX5_postAll) := goodIn_app (goodIn_of _ (by decide +kernel)) ggX5_request_X5_postAll
theorem dX5_request_0 : decode cX5_request 0 = .ok (.aload_n 0, 1) := by decide +kernel
theorem dX5_request_1 : decode cX5_request 1 = .ok (.iload_n 1, 1) := by decide +kernel
theorem dX5_request_2 : decode cX5_request 2 = .ok (.invokevirtual 145, 3) := by decide +kernel
theorem dX5_request_5 : decode cX5_request 5 = .ok (.ifCond .eq 54, 3) := by decide +kernel
theorem dX5_request_8 : decode cX5_request 8 = .ok (.iload_n 2, 1) := by decide +kernel
theorem dX5_request_9 : decode cX5_request 9 = .ok (.iconst 0, 1) := by decide +kernel
theorem dX5_request_10 : decode cX5_request 10 = .ok (.iconst 3, 1) := by decide +kernel
theorem dX5_request_11 : decode cX5_request 11 = .ok (.invokestatic 84, 3) := by decide +kernel
theorem dX5_request_14 : decode cX5_request 14 = .ok (.ifCond .eq 45, 3) := by decide +kernel
theorem dX5_request_17 : decode cX5_request 17 = .ok (.iload_n 3, 1) := by decide +kernel
theorem dX5_request_18 : decode cX5_request 18 = .ok (.iconst 1, 1) := by decide +kernel
theorem dX5_request_19 : decode cX5_request 19 = .ok (.ldc 148, 2) := by decide +kernel
theorem dX5_request_21 : decode cX5_request 21 = .ok (.invokestatic 84, 3) := by decide +kernel
theorem dX5_request_24 : decode cX5_request 24 = .ok (.ifCond .eq 35, 3) := by decide +kernel
theorem dX5_request_27 : decode cX5_request 27 = .ok (.iload 4, 2) := by decide +kernel
theorem dX5_request_29 : decode cX5_request 29 = .ok (.iconst 0, 1) := by decide +kernel
theorem dX5_request_30 : decode cX5_request 30 = .ok (.iconst 2, 1) := by decide +kernel
theorem dX5_request_31 : decode cX5_request 31 = .ok (.invokestatic 84, 3) := by decide +kernel
theorem dX5_request_34 : decode cX5_request 34 = .ok (.ifCond .eq 25, 3) := by decide +kernel
theorem dX5_request_37 : decode cX5_request 37 = .ok (.iload 5, 2) := by decide +kernel
theorem dX5_request_39 : decode cX5_request 39 = .ok (.iconst 0, 1) := by decide +kernel
theorem dX5_request_40 : decode cX5_request 40 = .ok (.bipush 7, 2) := by decide +kernel
theorem dX5_request_42 : decode cX5_request 42 = .ok (.invokestatic 84, 3) := by decide +kernel
theorem dX5_request_45 : decode cX5_request 45 = .ok (.ifCond .eq 14, 3) := by decide +kernel
theorem dX5_request_48 : decode cX5_request 48 = .ok (.iload 6, 2) := by decide +kernel
theorem dX5_request_50 : decode cX5_request 50 = .ok (.iconst 0, 1) := by decide +kernel
theorem dX5_request_51 : decode cX5_request 51 = .ok (.bipush 7, 2) := by decide +kernel
theorem dX5_request_53 : decode cX5_request 53 = .ok (.invokestatic 84, 3) := by decide +kernel
theorem dX5_request_56 : decode cX5_request 56 = .ok (.ifCond .ne 6, 3) := by decide +kernel
theorem dX5_request_59 : decode cX5_request 59 = .ok (.bipush (-2), 2) := by decide +kernel
theorem dX5_request_61 : decode cX5_request 61 = .ok (.ireturn, 1) := by decide +kernel
theorem dX5_request_62 : decode cX5_request 62 = .ok (.aload_n 0, 1) := by decide +kernel
theorem dX5_request_63 : decode cX5_request 63 = .ok (.getfield 19, 3) := by decide +kernel
theorem dX5_request_66 : decode cX5_request 66 = .ok (.iload_n 1, 1) := by decide +kernel
theorem dX5_request_67 : decode cX5_request 67 = .ok (.iaload, 1) := by decide +kernel
theorem dX5_request_68 : decode cX5_request 68 = .ok (.ifCond .ne 11, 3) := by decide +kernel
theorem dX5_request_71 : decode cX5_request 71 = .ok (.aload_n 0, 1) := by decide +kernel
theorem dX5_request_72 : decode cX5_request 72 = .ok (.iload_n 1, 1) := by decide +kernel
theorem dX5_request_73 : decode cX5_request 73 = .ok (.invokevirtual 121, 3) := by decide +kernel
theorem dX5_request_76 : decode cX5_request 76 = .ok (.ifCond .ne 6, 3) := by decide +kernel
theorem dX5_request_79 : decode cX5_request 79 = .ok (.bipush (-3), 2) := by decide +kernel
theorem dX5_request_81 : decode cX5_request 81 = .ok (.ireturn, 1) := by decide +kernel
theorem dX5_request_82 : decode cX5_request 82 = .ok (.aload_n 0, 1) := by decide +kernel
theorem dX5_request_83 : decode cX5_request 83 = .ok (.iload_n 1, 1) := by decide +kernel
theorem dX5_request_84 : decode cX5_request 84 = .ok (.iload_n 2, 1) := by decide +kernel
theorem dX5_request_85 : decode cX5_request 85 = .ok (.iload_n 3, 1) := by decide +kernel
theorem dX5_request_86 : decode cX5_request 86 = .ok (.invokevirtual 149, 3) := by decide +kernel
theorem dX5_request_89 : decode cX5_request 89 = .ok (.ifCond .ne 5, 3) := by decide +kernel
theorem dX5_request_92 : decode cX5_request 92 = .ok (.iconst 0, 1) := by decide +kernel
theorem dX5_request_93 : decode cX5_request 93 = .ok (.ireturn, 1) := by decide +kernel
theorem dX5_request_94 : decode cX5_request 94 = .ok (.aload_n 0, 1) := by decide +kernel
theorem dX5_request_95 : decode cX5_request 95 = .ok (.getfield 13, 3) := by decide +kernel
theorem dX5_request_98 : decode cX5_request 98 = .ok (.iload_n 1, 1) := by decide +kernel
theorem dX5_request_99 : decode cX5_request 99 = .ok (.iaload, 1) := by decide +kernel
theorem dX5_request_100 : decode cX5_request 100 = .ok (.bipush 16, 2) := by decide +kernel
theorem dX5_request_102 : decode cX5_request 102 = .ok (.if_icmp .ne 6, 3) := by decide +kernel
theorem dX5_request_105 : decode cX5_request 105 = .ok (.bipush (-4), 2) := by decide +kernel
theorem dX5_request_107 : decode cX5_request 107 = .ok (.ireturn, 1) := by decide +kernel
theorem dX5_request_108 : decode cX5_request 108 = .ok (.bipush 96, 2) := by decide +kernel
theorem dX5_request_110 : decode cX5_request 110 = .ok (.iload_n 1, 1) := by decide +kernel
theorem dX5_request_111 : decode cX5_request 111 = .ok (.imul, 1) := by decide +kernel
theorem dX5_request_112 : decode cX5_request 112 = .ok (.bipush 6, 2) := by decide +kernel
theorem dX5_request_114 : decode cX5_request 114 = .ok (.aload_n 0, 1) := by decide +kernel
theorem dX5_request_115 : decode cX5_request 115 = .ok (.getfield 13, 3) := by decide +kernel
theorem dX5_request_118 : decode cX5_request 118 = .ok (.iload_n 1, 1) := by decide +kernel
theorem dX5_request_119 : decode cX5_request 119 = .ok (.iaload, 1) := by decide +kernel
theorem dX5_request_120 : decode cX5_request 120 = .ok (.imul, 1) := by decide +kernel
theorem dX5_request_121 : decode cX5_request 121 = .ok (.iadd, 1) := by decide +kernel
theorem dX5_request_122 : decode cX5_request 122 = .ok (.istore 8, 2) := by decide +kernel
theorem dX5_request_124 : decode cX5_request 124 = .ok (.aload_n 0, 1) := by decide +kernel
theorem dX5_request_125 : decode cX5_request 125 = .ok (.getfield 7, 3) := by decide +kernel
theorem dX5_request_128 : decode cX5_request 128 = .ok (.iload 8, 2) := by decide +kernel
theorem dX5_request_130 : decode cX5_request 130 = .ok (.iload_n 2, 1) := by decide +kernel
theorem dX5_request_131 : decode cX5_request 131 = .ok (.iastore, 1) := by decide +kernel
theorem dX5_request_132 : decode cX5_request 132 = .ok (.aload_n 0, 1) := by decide +kernel
theorem dX5_request_133 : decode cX5_request 133 = .ok (.getfield 7, 3) := by decide +kernel
theorem dX5_request_136 : decode cX5_request 136 = .ok (.iload 8, 2) := by decide +kernel
theorem dX5_request_138 : decode cX5_request 138 = .ok (.iconst 1, 1) := by decide +kernel
theorem dX5_request_139 : decode cX5_request 139 = .ok (.iadd, 1) := by decide +kernel
theorem dX5_request_140 : decode cX5_request 140 = .ok (.iload_n 3, 1) := by decide +kernel
theorem dX5_request_141 : decode cX5_request 141 = .ok (.iastore, 1) := by decide +kernel
theorem dX5_request_142 : decode cX5_request 142 = .ok (.aload_n 0, 1) := by decide +kernel
theorem dX5_request_143 : decode cX5_request 143 = .ok (.getfield 7, 3) := by decide +kernel
theorem dX5_request_146 : decode cX5_request 146 = .ok (.iload 8, 2) := by decide +kernel
theorem dX5_request_148 : decode cX5_request 148 = .ok (.iconst 2, 1) := by decide +kernel
theorem dX5_request_149 : decode cX5_request 149 = .ok (.iadd, 1) := by decide +kernel
theorem dX5_request_150 : decode cX5_request 150 = .ok (.iload 4, 2) := by decide +kernel
theorem dX5_request_152 : decode cX5_request 152 = .ok (.iastore, 1) := by decide +kernel
theorem dX5_request_153 : decode cX5_request 153 = .ok (.aload_n 0, 1) := by decide +kernel
theorem dX5_request_154 : decode cX5_request 154 = .ok (.getfield 7, 3) := by decide +kernel
theorem dX5_request_157 : decode cX5_request 157 = .ok (.iload 8, 2) := by decide +kernel
theorem dX5_request_159 : decode cX5_request 159 = .ok (.iconst 3, 1) := by decide +kernel
theorem dX5_request_160 : decode cX5_request 160 = .ok (.iadd, 1) := by decide +kernel
theorem dX5_request_161 : decode cX5_request 161 = .ok (.iload 5, 2) := by decide +kernel
theorem dX5_request_163 : decode cX5_request 163 = .ok (.iastore, 1) := by decide +kernel
theorem dX5_request_164 : decode cX5_request 164 = .ok (.aload_n 0, 1) := by decide +kernel
theorem dX5_request_165 : decode cX5_request 165 = .ok (.getfield 7, 3) := by decide +kernel
theorem dX5_request_168 : decode cX5_request 168 = .ok (.iload 8, 2) := by decide +kernel
theorem dX5_request_170 : decode cX5_request 170 = .ok (.iconst 4, 1) := by decide +kernel
theorem dX5_request_171 : decode cX5_request 171 = .ok (.iadd, 1) := by decide +kernel
theorem dX5_request_172 : decode cX5_request 172 = .ok (.iload 6, 2) := by decide +kernel
theorem dX5_request_174 : decode cX5_request 174 = .ok (.iastore, 1) := by decide +kernel
theorem dX5_request_175 : decode cX5_request 175 = .ok (.aload_n 0, 1) := by decide +kernel
theorem dX5_request_176 : decode cX5_request 176 = .ok (.getfield 7, 3) := by decide +kernel
theorem dX5_request_179 : decode cX5_request 179 = .ok (.iload 8, 2) := by decide +kernel
theorem dX5_request_181 : decode cX5_request 181 = .ok (.iconst 5, 1) := by decide +kernel
theorem dX5_request_182 : decode cX5_request 182 = .ok (.iadd, 1) := by decide +kernel
theorem dX5_request_183 : decode cX5_request 183 = .ok (.iload 7, 2) := by decide +kernel
theorem dX5_request_185 : decode cX5_request 185 = .ok (.iastore, 1) := by decide +kernel
theorem dX5_request_186 : decode cX5_request 186 = .ok (.aload_n 0, 1) := by decide +kernel
theorem dX5_request_187 : decode cX5_request 187 = .ok (.getfield 13, 3) := by decide +kernel
theorem dX5_request_190 : decode cX5_request 190 = .ok (.iload_n 1, 1) := by decide +kernel
theorem dX5_request_191 : decode cX5_request 191 = .ok (.dup2, 1) := by decide +kernel
theorem dX5_request_192 : decode cX5_request 192 = .ok (.iaload, 1) := by decide +kernel
theorem dX5_request_193 : decode cX5_request 193 = .ok (.iconst 1, 1) := by decide +kernel
theorem dX5_request_194 : decode cX5_request 194 = .ok (.iadd, 1) := by decide +kernel
theorem dX5_request_195 : decode cX5_request 195 = .ok (.iastore, 1) := by decide +kernel
theorem dX5_request_196 : decode cX5_request 196 = .ok (.aload_n 0, 1) := by decide +kernel
theorem dX5_request_197 : decode cX5_request 197 = .ok (.iload_n 1, 1) := by decide +kernel
theorem dX5_request_198 : decode cX5_request 198 = .ok (.iconst 1, 1) := by decide +kernel
theorem dX5_request_199 : decode cX5_request 199 = .ok (.aload_n 0, 1) := by decide +kernel
theorem dX5_request_200 : decode cX5_request 200 = .ok (.getfield 22, 3) := by decide +kernel
theorem dX5_request_203 : decode cX5_request 203 = .ok (.iload_n 1, 1) := by decide +kernel
theorem dX5_request_204 : decode cX5_request 204 = .ok (.iaload, 1) := by decide +kernel
theorem dX5_request_205 : decode cX5_request 205 = .ok (.iconst 0, 1) := by decide +kernel
theorem dX5_request_206 : decode cX5_request 206 = .ok (.invokevirtual 127, 3) := by decide +kernel
theorem dX5_request_209 : decode cX5_request 209 = .ok (.istore 9, 2) := by decide +kernel
theorem dX5_request_211 : decode cX5_request 211 = .ok (.aload_n 0, 1) := by decide +kernel
theorem dX5_request_212 : decode cX5_request 212 = .ok (.getfield 13, 3) := by decide +kernel
theorem dX5_request_215 : decode cX5_request 215 = .ok (.iload_n 1, 1) := by decide +kernel
theorem dX5_request_216 : decode cX5_request 216 = .ok (.iaload, 1) := by decide +kernel
theorem dX5_request_217 : decode cX5_request 217 = .ok (.ireturn, 1) := by decide +kernel
set_option maxRecDepth 20000 in
theorem ggX5_isThere_X5_in : GoodIn wsX5_isThere wsX5_in := goodIn_r _ [6] (by decide +kernel) (by decide +kernel)
set_option maxRecDepth 20000 in
theorem gX5_isThere_X5_in : GoodIn wsX5_isThere (va_wsS RX5 84 yX5_in wsX5_in) := goodIn_app (goodIn_of _ (by decide +kernel)) ggX5_isThere_X5_in
theorem dX5_isThere_0 : decode cX5_isThere 0 = .ok (.iload_n 1, 1) := by decide +kernel
theorem dX5_isThere_1 : decode cX5_isThere 1 = .ok (.iconst 0, 1) := by decide +kernel
theorem dX5_isThere_2 : decode cX5_isThere 2 = .ok (.aload_n 0, 1) := by decide +kernel
theorem dX5_isThere_3 : decode cX5_isThere 3 = .ok (.getfield 88, 3) := by decide +kernel
theorem dX5_isThere_6 : decode cX5_isThere 6 = .ok (.iconst 1, 1) := by decide +kernel
theorem dX5_isThere_7 : decode cX5_isThere 7 = .ok (.isub, 1) := by decide +kernel
theorem dX5_isThere_8 : decode cX5_isThere 8 = .ok (.invokestatic 84, 3) := by decide +kernel
theorem dX5_isThere_11 : decode cX5_isThere 11 = .ok (.ifCond .eq 16, 3) := by decide +kernel
theorem dX5_isThere_14 : decode cX5_isThere 14 = .ok (.aload_n 0, 1) := by decide +kernel
theorem dX5_isThere_15 : decode cX5_isThere 15 = .ok (.getfield 71, 3) := by decide +kernel
theorem dX5_isThere_18 : decode cX5_isThere 18 = .ok (.iload_n 1, 1) := by decide +kernel
theorem dX5_isThere_19 : decode cX5_isThere 19 = .ok (.baload, 1) := by decide +kernel
theorem dX5_isThere_20 : decode cX5_isThere 20 = .ok (.ifCond .ne 7, 3) := by decide +kernel
theorem dX5_isThere_23 : decode cX5_isThere 23 = .ok (.iconst 1, 1) := by decide +kernel
theorem dX5_isThere_24 : decode cX5_isThere 24 = .ok (.goto 4, 3) := by decide +kernel
theorem dX5_isThere_27 : decode cX5_isThere 27 = .ok (.iconst 0, 1) := by decide +kernel
theorem dX5_isThere_28 : decode cX5_isThere 28 = .ok (.ireturn, 1) := by decide +kernel
set_option maxRecDepth 20000 in
theorem ggX5_does_X5_prepares : GoodIn wsX5_does wsX5_prepares := goodIn_r _ [12, 5, 4, 13, 14, 15, 16, 17, 11, 18, 19, 20, 21, 22, 23, 24, 25, 26, 27, 28, 29, 30, 31, 32, 33, 34, 35, 36, 37, 38, 39, 40, 41, 6, 1, 3, 2, 7, 42, 43, 44, 45, 46, 47, 48, 98, 99, 100, 101, 102, 103, 104, 105, 106, 107, 108, 109, 110, 111, 112, 113, 114, 115, 116, 117, 118, 119, 120, 121, 122, 123] (by decide +kernel) (by decide +kernel)
set_option maxRecDepth 20000 in
theorem gX5_does_X5_prepares : GoodIn wsX5_does (wsV RX5 152 RX5 yX5_prepares wsX5_prepares) := goodIn_app (goodIn_of _ (by decide +kernel)) ggX5_does_X5_prepares
set_option maxRecDepth 20000 in
theorem ggX5_does_X5_hears : GoodIn wsX5_does wsX5_hears := goodIn_r _ [52, 5, 4, 53, 14, 13, 35, 54, 45, 46, 47, 11, 48, 25, 26, 27, 98, 99, 100, 101, 102, 103, 104, 105, 106, 107, 108, 109, 110, 111, 112, 113, 114, 115, 116, 117, 118, 119, 120, 121, 122, 123] (by decide +kernel) (by decide +kernel)
set_option maxRecDepth 20000 in
theorem gX5_does_X5_hears : GoodIn wsX5_does (wsV RX5 155 RX5 yX5_hears wsX5_hears) := goodIn_app (goodIn_of _ (by decide +kernel)) ggX5_does_X5_hears
set_option maxRecDepth 20000 in
theorem ggX5_does_X5_isAsked : GoodIn wsX5_does wsX5_isAsked := goodIn_r _ [58, 5, 4, 59, 54, 60, 19, 35, 61, 62, 63, 11, 64, 65, 66, 67, 68, 69, 70, 71, 72, 73, 36, 37, 38, 39, 40, 41, 6, 1, 3, 2, 7, 42, 43, 44, 20, 21, 22, 23, 14, 13, 24, 74, 75, 76, 77, 45, 46, 47, 48, 78, 79, 80, 81, 82, 53, 83, 84, 85, 86, 25, 26, 27, 28, 29, 30, 98, 99, 100, 101, 102, 103, 104, 105, 106, 107, 108, 109, 110, 111, 112, 113, 114, 115, 116, 117, 118, 119, 120, 121, 122, 123] (by decide +kernel) (by decide +kernel)
set_option maxRecDepth 20000 in
theorem gX5_does_X5_isAsked : GoodIn wsX5_does (wsV RX5 158 RX5 yX5_isAsked wsX5_isAsked) := goodIn_app (goodIn_of _ (by decide +kernel)) ggX5_does_X5_isAsked
set_option maxRecDepth 20000 in
theorem ggX5_does_X5_isVoted : GoodIn wsX5_does wsX5_isVoted := goodIn_r _ [90, 35, 5, 61, 62, 63, 11, 64, 4, 65, 66, 67, 68, 59, 69, 60, 70, 71, 72, 73, 36, 37, 38, 39, 40, 41, 6, 1, 3, 2, 7, 42, 43, 44, 20, 21, 22, 23, 14, 13, 24, 78, 79, 80, 81, 82, 54, 19, 53, 83, 84, 85, 86, 25, 26, 27, 28, 29, 30, 98, 99, 100, 101, 102, 103, 104, 105, 106, 107, 108, 109, 110, 111, 112, 113, 114, 115, 116, 117, 118, 119, 120, 121, 122, 123] (by decide +kernel) (by decide +kernel)
set_option maxRecDepth 20000 in
theorem gX5_does_X5_isVoted : GoodIn wsX5_does (wsV RX5 161 RX5 yX5_isVoted wsX5_isVoted) := goodIn_app (goodIn_of _ (by decide +kernel)) ggX5_does_X5_isVoted
set_option maxRecDepth 20000 in
theorem ggX5_does_X5_post : GoodIn wsX5_does wsX5_post := goodIn_r _ [39, 40, 41, 6, 1, 3, 2, 7, 42, 43, 11, 44, 20, 21, 22, 23, 14, 13, 24, 98, 99, 100, 101, 102, 103, 104, 105, 106, 107, 108, 109, 110, 111, 112, 113, 114, 115, 116, 117, 118, 119, 120, 121, 122, 123] (by decide +kernel) (by decide +kernel)
set_option maxRecDepth 20000 in
theorem gX5_does_X5_post : GoodIn wsX5_does (wsV RX5 102 RX5 yX5_post wsX5_post) := goodIn_app (goodIn_of _ (by decide +kernel)) ggX5_does_X5_post
set_option maxRecDepth 20000 in
theorem ggX5_does_X5_hearsTale : GoodIn wsX5_does wsX5_hearsTale := goodIn_r _ [94, 4, 95, 96, 97, 35, 54, 5, 19, 20, 21, 22, 11, 23, 14, 13, 24, 25, 26, 27, 98, 99, 100, 101, 102, 103, 104, 105, 106, 107, 108, 109, 110, 111, 112, 113, 114, 115, 116, 117, 118, 119, 120, 121, 122, 123] (by decide +kernel) (by decide +kernel)
set_option maxRecDepth 20000 in
theorem gX5_does_X5_hearsTale : GoodIn wsX5_does (wsV RX5 165 RX5 yX5_hearsTale wsX5_hearsTale) := goodIn_app (goodIn_of _ (by decide +kernel)) ggX5_does_X5_hearsTale
theorem dX5_does_0 : decode cX5_does 0 = .ok (.aload_n 0, 1) := by decide +kernel
theorem dX5_does_1 : decode cX5_does 1 = .ok (.getfield 59, 3) := by decide +kernel
theorem dX5_does_4 : decode cX5_does 4 = .ok (.iload_n 1, 1) := by decide +kernel
theorem dX5_does_5 : decode cX5_does 5 = .ok (.iaload, 1) := by decide +kernel
theorem dX5_does_6 : decode cX5_does 6 = .ok (.istore_n 2, 1) := by decide +kernel
theorem dX5_does_7 : decode cX5_does 7 = .ok (.aload_n 0, 1) := by decide +kernel
theorem dX5_does_8 : decode cX5_does 8 = .ok (.getfield 65, 3) := by decide +kernel
theorem dX5_does_11 : decode cX5_does 11 = .ok (.iload_n 1, 1) := by decide +kernel
theorem dX5_does_12 : decode cX5_does 12 = .ok (.iaload, 1) := by decide +kernel
theorem dX5_does_13 : decode cX5_does 13 = .ok (.istore_n 3, 1) := by decide +kernel
theorem dX5_does_14 : decode cX5_does 14 = .ok (.bipush 55, 2) := by decide +kernel
theorem dX5_does_16 : decode cX5_does 16 = .ok (.iload_n 1, 1) := by decide +kernel
theorem dX5_does_17 : decode cX5_does 17 = .ok (.iadd, 1) := by decide +kernel
theorem dX5_does_18 : decode cX5_does 18 = .ok (.istore 4, 2) := by decide +kernel
theorem dX5_does_20 : decode cX5_does 20 = .ok (.aload_n 0, 1) := by decide +kernel
theorem dX5_does_21 : decode cX5_does 21 = .ok (.getfield 62, 3) := by decide +kernel
theorem dX5_does_24 : decode cX5_does 24 = .ok (.iload_n 1, 1) := by decide +kernel
theorem dX5_does_25 : decode cX5_does 25 = .ok (.iaload, 1) := by decide +kernel
theorem dX5_does_26 : decode cX5_does 26 = .ok (.iconst 5, 1) := by decide +kernel
theorem dX5_does_27 : decode cX5_does 27 = .ok (.if_icmp .gt 25, 3) := by decide +kernel
theorem dX5_does_30 : decode cX5_does 30 = .ok (.aload_n 0, 1) := by decide +kernel
theorem dX5_does_31 : decode cX5_does 31 = .ok (.getfield 19, 3) := by decide +kernel
theorem dX5_does_34 : decode cX5_does 34 = .ok (.iload_n 2, 1) := by decide +kernel
theorem dX5_does_35 : decode cX5_does 35 = .ok (.iaload, 1) := by decide +kernel
theorem dX5_does_36 : decode cX5_does 36 = .ok (.iconst 2, 1) := by decide +kernel
theorem dX5_does_37 : decode cX5_does 37 = .ok (.if_icmp .ge 13, 3) := by decide +kernel
theorem dX5_does_40 : decode cX5_does 40 = .ok (.aload_n 0, 1) := by decide +kernel
theorem dX5_does_41 : decode cX5_does 41 = .ok (.getfield 22, 3) := by decide +kernel
theorem dX5_does_44 : decode cX5_does 44 = .ok (.iload_n 2, 1) := by decide +kernel
theorem dX5_does_45 : decode cX5_does 45 = .ok (.iaload, 1) := by decide +kernel
theorem dX5_does_46 : decode cX5_does 46 = .ok (.iload_n 3, 1) := by decide +kernel
theorem dX5_does_47 : decode cX5_does 47 = .ok (.if_icmp .le 5, 3) := by decide +kernel
theorem dX5_does_50 : decode cX5_does 50 = .ok (.iconst 0, 1) := by decide +kernel
theorem dX5_does_51 : decode cX5_does 51 = .ok (.ireturn, 1) := by decide +kernel
theorem dX5_does_52 : decode cX5_does 52 = .ok (.aload_n 0, 1) := by decide +kernel
theorem dX5_does_53 : decode cX5_does 53 = .ok (.getfield 62, 3) := by decide +kernel
theorem dX5_does_56 : decode cX5_does 56 = .ok (.iload_n 1, 1) := by decide +kernel
theorem dX5_does_57 : decode cX5_does 57 = .ok (.iaload, 1) := by decide +kernel
theorem dX5_does_58 : decode cX5_does 58 = .ok (.tableswitch 138 1 6 #[38, 47, 66, 79, 38, 100], 38) := by decide +kernel
theorem dX5_does_96 : decode cX5_does 96 = .ok (.aload_n 0, 1) := by decide +kernel
theorem dX5_does_97 : decode cX5_does 97 = .ok (.iload_n 2, 1) := by decide +kernel
theorem dX5_does_98 : decode cX5_does 98 = .ok (.iload 4, 2) := by decide +kernel
theorem dX5_does_100 : decode cX5_does 100 = .ok (.iload_n 3, 1) := by decide +kernel
theorem dX5_does_101 : decode cX5_does 101 = .ok (.invokevirtual 152, 3) := by decide +kernel
theorem dX5_does_104 : decode cX5_does 104 = .ok (.ireturn, 1) := by decide +kernel
theorem dX5_does_105 : decode cX5_does 105 = .ok (.aload_n 0, 1) := by decide +kernel
theorem dX5_does_106 : decode cX5_does 106 = .ok (.iload_n 2, 1) := by decide +kernel
theorem dX5_does_107 : decode cX5_does 107 = .ok (.aload_n 0, 1) := by decide +kernel
theorem dX5_does_108 : decode cX5_does 108 = .ok (.getfield 56, 3) := by decide +kernel
theorem dX5_does_111 : decode cX5_does 111 = .ok (.iload_n 1, 1) := by decide +kernel
theorem dX5_does_112 : decode cX5_does 112 = .ok (.iaload, 1) := by decide +kernel
theorem dX5_does_113 : decode cX5_does 113 = .ok (.iload_n 3, 1) := by decide +kernel
theorem dX5_does_114 : decode cX5_does 114 = .ok (.aload_n 0, 1) := by decide +kernel
theorem dX5_does_115 : decode cX5_does 115 = .ok (.getfield 68, 3) := by decide +kernel
theorem dX5_does_118 : decode cX5_does 118 = .ok (.iload_n 1, 1) := by decide +kernel
theorem dX5_does_119 : decode cX5_does 119 = .ok (.iaload, 1) := by decide +kernel
theorem dX5_does_120 : decode cX5_does 120 = .ok (.invokevirtual 155, 3) := by decide +kernel
theorem dX5_does_123 : decode cX5_does 123 = .ok (.ireturn, 1) := by decide +kernel
theorem dX5_does_124 : decode cX5_does 124 = .ok (.aload_n 0, 1) := by decide +kernel
theorem dX5_does_125 : decode cX5_does 125 = .ok (.iload_n 2, 1) := by decide +kernel
theorem dX5_does_126 : decode cX5_does 126 = .ok (.aload_n 0, 1) := by decide +kernel
theorem dX5_does_127 : decode cX5_does 127 = .ok (.getfield 56, 3) := by decide +kernel
theorem dX5_does_130 : decode cX5_does 130 = .ok (.iload_n 1, 1) := by decide +kernel
theorem dX5_does_131 : decode cX5_does 131 = .ok (.iaload, 1) := by decide +kernel
theorem dX5_does_132 : decode cX5_does 132 = .ok (.iload_n 3, 1) := by decide +kernel
theorem dX5_does_133 : decode cX5_does 133 = .ok (.invokevirtual 158, 3) := by decide +kernel
theorem dX5_does_136 : decode cX5_does 136 = .ok (.ireturn, 1) := by decide +kernel
theorem dX5_does_137 : decode cX5_does 137 = .ok (.aload_n 0, 1) := by decide +kernel
theorem dX5_does_138 : decode cX5_does 138 = .ok (.iload_n 2, 1) := by decide +kernel
theorem dX5_does_139 : decode cX5_does 139 = .ok (.aload_n 0, 1) := by decide +kernel
theorem dX5_does_140 : decode cX5_does 140 = .ok (.getfield 56, 3) := by decide +kernel
theorem dX5_does_143 : decode cX5_does 143 = .ok (.iload_n 1, 1) := by decide +kernel
theorem dX5_does_144 : decode cX5_does 144 = .ok (.iaload, 1) := by decide +kernel
theorem dX5_does_145 : decode cX5_does 145 = .ok (.iload 4, 2) := by decide +kernel
theorem dX5_does_147 : decode cX5_does 147 = .ok (.iload_n 3, 1) := by decide +kernel
theorem dX5_does_148 : decode cX5_does 148 = .ok (.aload_n 0, 1) := by decide +kernel
theorem dX5_does_149 : decode cX5_does 149 = .ok (.getfield 68, 3) := by decide +kernel
theorem dX5_does_152 : decode cX5_does 152 = .ok (.iload_n 1, 1) := by decide +kernel
theorem dX5_does_153 : decode cX5_does 153 = .ok (.iaload, 1) := by decide +kernel
theorem dX5_does_154 : decode cX5_does 154 = .ok (.invokevirtual 161, 3) := by decide +kernel
theorem dX5_does_157 : decode cX5_does 157 = .ok (.ireturn, 1) := by decide +kernel
theorem dX5_does_158 : decode cX5_does 158 = .ok (.aload_n 0, 1) := by decide +kernel
theorem dX5_does_159 : decode cX5_does 159 = .ok (.getfield 19, 3) := by decide +kernel
theorem dX5_does_162 : decode cX5_does 162 = .ok (.iload_n 2, 1) := by decide +kernel
theorem dX5_does_163 : decode cX5_does 163 = .ok (.iaload, 1) := by decide +kernel
theorem dX5_does_164 : decode cX5_does 164 = .ok (.ifCond .eq 5, 3) := by decide +kernel
theorem dX5_does_167 : decode cX5_does 167 = .ok (.iconst 0, 1) := by decide +kernel
theorem dX5_does_168 : decode cX5_does 168 = .ok (.ireturn, 1) := by decide +kernel
theorem dX5_does_169 : decode cX5_does 169 = .ok (.aload_n 0, 1) := by decide +kernel
theorem dX5_does_170 : decode cX5_does 170 = .ok (.iload_n 2, 1) := by decide +kernel
theorem dX5_does_171 : decode cX5_does 171 = .ok (.aload_n 0, 1) := by decide +kernel
theorem dX5_does_172 : decode cX5_does 172 = .ok (.getfield 56, 3) := by decide +kernel
theorem dX5_does_175 : decode cX5_does 175 = .ok (.iload_n 1, 1) := by decide +kernel
theorem dX5_does_176 : decode cX5_does 176 = .ok (.iaload, 1) := by decide +kernel
theorem dX5_does_177 : decode cX5_does 177 = .ok (.bipush 7, 2) := by decide +kernel
theorem dX5_does_179 : decode cX5_does 179 = .ok (.aload_n 0, 1) := by decide +kernel
theorem dX5_does_180 : decode cX5_does 180 = .ok (.getfield 22, 3) := by decide +kernel
theorem dX5_does_183 : decode cX5_does 183 = .ok (.iload_n 2, 1) := by decide +kernel
theorem dX5_does_184 : decode cX5_does 184 = .ok (.iaload, 1) := by decide +kernel
theorem dX5_does_185 : decode cX5_does 185 = .ok (.aload_n 0, 1) := by decide +kernel
theorem dX5_does_186 : decode cX5_does 186 = .ok (.getfield 68, 3) := by decide +kernel
theorem dX5_does_189 : decode cX5_does 189 = .ok (.iload_n 1, 1) := by decide +kernel
theorem dX5_does_190 : decode cX5_does 190 = .ok (.iaload, 1) := by decide +kernel
theorem dX5_does_191 : decode cX5_does 191 = .ok (.invokevirtual 102, 3) := by decide +kernel
theorem dX5_does_194 : decode cX5_does 194 = .ok (.iconst 1, 1) := by decide +kernel
theorem dX5_does_195 : decode cX5_does 195 = .ok (.ireturn, 1) := by decide +kernel
theorem dX5_does_196 : decode cX5_does 196 = .ok (.aload_n 0, 1) := by decide +kernel
theorem dX5_does_197 : decode cX5_does 197 = .ok (.iload_n 2, 1) := by decide +kernel
theorem dX5_does_198 : decode cX5_does 198 = .ok (.aload_n 0, 1) := by decide +kernel
theorem dX5_does_199 : decode cX5_does 199 = .ok (.getfield 56, 3) := by decide +kernel
theorem dX5_does_202 : decode cX5_does 202 = .ok (.iload_n 1, 1) := by decide +kernel
theorem dX5_does_203 : decode cX5_does 203 = .ok (.iaload, 1) := by decide +kernel
theorem dX5_does_204 : decode cX5_does 204 = .ok (.iload 4, 2) := by decide +kernel
theorem dX5_does_206 : decode cX5_does 206 = .ok (.iload_n 3, 1) := by decide +kernel
theorem dX5_does_207 : decode cX5_does 207 = .ok (.aload_n 0, 1) := by decide +kernel
theorem dX5_does_208 : decode cX5_does 208 = .ok (.getfield 68, 3) := by decide +kernel
theorem dX5_does_211 : decode cX5_does 211 = .ok (.iload_n 1, 1) := by decide +kernel
theorem dX5_does_212 : decode cX5_does 212 = .ok (.iaload, 1) := by decide +kernel
theorem dX5_does_213 : decode cX5_does 213 = .ok (.invokevirtual 165, 3) := by decide +kernel
theorem dX5_does_216 : decode cX5_does 216 = .ok (.ireturn, 1) := by decide +kernel
set_option maxRecDepth 20000 in
theorem ggX5_deliver_X5_isThere : GoodIn wsX5_deliver wsX5_isThere := goodIn_r _ [8, 9, 10, 11, 12, 7, 13, 111, 112, 113, 114, 115, 116, 117, 118, 119, 120, 121, 122, 123, 124, 125, 126, 127, 128, 129, 130, 131, 132, 133, 134, 135, 136] (by decide +kernel) (by decide +kernel)
set_option maxRecDepth 20000 in
theorem gX5_deliver_X5_isThere : GoodIn wsX5_deliver (wsV RX5 168 RX5 yX5_isThere wsX5_isThere) := goodIn_app (goodIn_of _ (by decide +kernel)) ggX5_deliver_X5_isThere
set_option maxRecDepth 20000 in
theorem ggX5_deliver_X5_does : GoodIn wsX5_deliver wsX5_does := goodIn_r _ [17, 3, 18, 19, 20, 21, 2, 22, 23, 24, 25, 7, 26, 27, 28, 29, 30, 31, 32, 33, 34, 35, 36, 37, 38, 39, 40, 41, 42, 43, 44, 45, 46, 47, 48, 49, 50, 51, 52, 53, 9, 54, 55, 56, 57, 58, 59, 60, 61, 62, 63, 64, 65, 66, 67, 68, 69, 70, 71, 72, 73, 74, 75, 76, 77, 78, 79, 80, 81, 82, 83, 84, 85, 86, 87, 88, 89, 90, 91, 92, 93, 94, 95, 96, 97, 98, 99, 100, 101, 102, 103, 104, 105, 106, 107, 108, 109, 110, 111, 112, 113, 114, 115, 116, 117, 118, 119, 120, 121, 122, 123, 124, 125, 126, 127, 128, 129, 130, 131, 132, 133, 134, 135, 136] (by decide +kernel) (by decide +kernel)
set_option maxRecDepth 20000 in
theorem gX5_deliver_X5_does : GoodIn wsX5_deliver (wsV RX5 171 RX5 yX5_does wsX5_does) := goodIn_app (goodIn_of _ (by decide +kernel)) ggX5_deliver_X5_does
theorem dX5_deliver_0 : decode cX5_deliver 0 = .ok (.aload_n 0, 1) := by decide +kernel
theorem dX5_deliver_1 : decode cX5_deliver 1 = .ok (.iload_n 1, 1) := by decide +kernel
theorem dX5_deliver_2 : decode cX5_deliver 2 = .ok (.invokevirtual 168, 3) := by decide +kernel
theorem dX5_deliver_5 : decode cX5_deliver 5 = .ok (.ifCond .ne 6, 3) := by decide +kernel
theorem dX5_deliver_8 : decode cX5_deliver 8 = .ok (.bipush (-2), 2) := by decide +kernel
theorem dX5_deliver_10 : decode cX5_deliver 10 = .ok (.ireturn, 1) := by decide +kernel
theorem dX5_deliver_11 : decode cX5_deliver 11 = .ok (.aload_n 0, 1) := by decide +kernel
theorem dX5_deliver_12 : decode cX5_deliver 12 = .ok (.getfield 53, 3) := by decide +kernel
theorem dX5_deliver_15 : decode cX5_deliver 15 = .ok (.iconst 5, 1) := by decide +kernel
theorem dX5_deliver_16 : decode cX5_deliver 16 = .ok (.aload_n 0, 1) := by decide +kernel
theorem dX5_deliver_17 : decode cX5_deliver 17 = .ok (.getfield 56, 3) := by decide +kernel
theorem dX5_deliver_20 : decode cX5_deliver 20 = .ok (.iload_n 1, 1) := by decide +kernel
theorem dX5_deliver_21 : decode cX5_deliver 21 = .ok (.iaload, 1) := by decide +kernel
theorem dX5_deliver_22 : decode cX5_deliver 22 = .ok (.imul, 1) := by decide +kernel
theorem dX5_deliver_23 : decode cX5_deliver 23 = .ok (.aload_n 0, 1) := by decide +kernel
theorem dX5_deliver_24 : decode cX5_deliver 24 = .ok (.getfield 59, 3) := by decide +kernel
theorem dX5_deliver_27 : decode cX5_deliver 27 = .ok (.iload_n 1, 1) := by decide +kernel
theorem dX5_deliver_28 : decode cX5_deliver 28 = .ok (.iaload, 1) := by decide +kernel
theorem dX5_deliver_29 : decode cX5_deliver 29 = .ok (.iadd, 1) := by decide +kernel
theorem dX5_deliver_30 : decode cX5_deliver 30 = .ok (.baload, 1) := by decide +kernel
theorem dX5_deliver_31 : decode cX5_deliver 31 = .ok (.ifCond .eq 6, 3) := by decide +kernel
theorem dX5_deliver_34 : decode cX5_deliver 34 = .ok (.bipush (-3), 2) := by decide +kernel
theorem dX5_deliver_36 : decode cX5_deliver 36 = .ok (.ireturn, 1) := by decide +kernel
theorem dX5_deliver_37 : decode cX5_deliver 37 = .ok (.aload_n 0, 1) := by decide +kernel
theorem dX5_deliver_38 : decode cX5_deliver 38 = .ok (.iload_n 1, 1) := by decide +kernel
theorem dX5_deliver_39 : decode cX5_deliver 39 = .ok (.invokevirtual 171, 3) := by decide +kernel
theorem dX5_deliver_42 : decode cX5_deliver 42 = .ok (.ifCond .eq 7, 3) := by decide +kernel
theorem dX5_deliver_45 : decode cX5_deliver 45 = .ok (.iconst 1, 1) := by decide +kernel
theorem dX5_deliver_46 : decode cX5_deliver 46 = .ok (.goto 4, 3) := by decide +kernel
theorem dX5_deliver_49 : decode cX5_deliver 49 = .ok (.iconst 0, 1) := by decide +kernel
theorem dX5_deliver_50 : decode cX5_deliver 50 = .ok (.ireturn, 1) := by decide +kernel
set_option maxRecDepth 20000 in
theorem ggX5_drop_X5_isThere : GoodIn wsX5_drop wsX5_isThere := goodIn_r _ [6, 7, 1, 8, 9, 5, 10, 11, 12, 13, 14, 15, 16, 17, 18, 19, 20, 21, 22, 23, 24, 25, 26, 27, 28, 29, 30, 31, 32, 33, 34, 35, 36] (by decide +kernel) (by decide +kernel)
set_option maxRecDepth 20000 in
theorem gX5_drop_X5_isThere : GoodIn wsX5_drop (wsV RX5 168 RX5 yX5_isThere wsX5_isThere) := goodIn_app (goodIn_of _ (by decide +kernel)) ggX5_drop_X5_isThere
theorem dX5_drop_0 : decode cX5_drop 0 = .ok (.aload_n 0, 1) := by decide +kernel
theorem dX5_drop_1 : decode cX5_drop 1 = .ok (.iload_n 1, 1) := by decide +kernel
theorem dX5_drop_2 : decode cX5_drop 2 = .ok (.invokevirtual 168, 3) := by decide +kernel
theorem dX5_drop_5 : decode cX5_drop 5 = .ok (.ifCond .ne 6, 3) := by decide +kernel
theorem dX5_drop_8 : decode cX5_drop 8 = .ok (.bipush (-2), 2) := by decide +kernel
theorem dX5_drop_10 : decode cX5_drop 10 = .ok (.ireturn, 1) := by decide +kernel
theorem dX5_drop_11 : decode cX5_drop 11 = .ok (.aload_n 0, 1) := by decide +kernel
theorem dX5_drop_12 : decode cX5_drop 12 = .ok (.getfield 71, 3) := by decide +kernel
theorem dX5_drop_15 : decode cX5_drop 15 = .ok (.iload_n 1, 1) := by decide +kernel
theorem dX5_drop_16 : decode cX5_drop 16 = .ok (.iconst 1, 1) := by decide +kernel
theorem dX5_drop_17 : decode cX5_drop 17 = .ok (.bastore, 1) := by decide +kernel
theorem dX5_drop_18 : decode cX5_drop 18 = .ok (.iconst 1, 1) := by decide +kernel
theorem dX5_drop_19 : decode cX5_drop 19 = .ok (.ireturn, 1) := by decide +kernel
set_option maxRecDepth 20000 in
theorem ggX5_cut_X5_isNode : GoodIn wsX5_cut wsX5_isNode := goodIn_r _ [6, 7, 8, 9, 5, 10, 11, 12, 13, 14, 15, 16, 17, 18, 19, 20, 21, 22, 23, 24, 25, 26, 27, 28, 29, 30, 31, 32, 33, 34, 35, 36] (by decide +kernel) (by decide +kernel)
set_option maxRecDepth 20000 in
theorem gX5_cut_X5_isNode : GoodIn wsX5_cut (wsV RX5 145 RX5 yX5_isNode wsX5_isNode) := goodIn_app (goodIn_of _ (by decide +kernel)) ggX5_cut_X5_isNode
theorem dX5_cut_0 : decode cX5_cut 0 = .ok (.aload_n 0, 1) := by decide +kernel
theorem dX5_cut_1 : decode cX5_cut 1 = .ok (.iload_n 1, 1) := by decide +kernel
theorem dX5_cut_2 : decode cX5_cut 2 = .ok (.invokevirtual 145, 3) := by decide +kernel
theorem dX5_cut_5 : decode cX5_cut 5 = .ok (.ifCond .eq 16, 3) := by decide +kernel
theorem dX5_cut_8 : decode cX5_cut 8 = .ok (.aload_n 0, 1) := by decide +kernel
theorem dX5_cut_9 : decode cX5_cut 9 = .ok (.iload_n 2, 1) := by decide +kernel
theorem dX5_cut_10 : decode cX5_cut 10 = .ok (.invokevirtual 145, 3) := by decide +kernel
theorem dX5_cut_13 : decode cX5_cut 13 = .ok (.ifCond .eq 8, 3) := by decide +kernel
theorem dX5_cut_16 : decode cX5_cut 16 = .ok (.iload_n 1, 1) := by decide +kernel
theorem dX5_cut_17 : decode cX5_cut 17 = .ok (.iload_n 2, 1) := by decide +kernel
theorem dX5_cut_18 : decode cX5_cut 18 = .ok (.if_icmp .ne 6, 3) := by decide +kernel
theorem dX5_cut_21 : decode cX5_cut 21 = .ok (.bipush (-2), 2) := by decide +kernel
theorem dX5_cut_23 : decode cX5_cut 23 = .ok (.ireturn, 1) := by decide +kernel
theorem dX5_cut_24 : decode cX5_cut 24 = .ok (.aload_n 0, 1) := by decide +kernel
theorem dX5_cut_25 : decode cX5_cut 25 = .ok (.getfield 53, 3) := by decide +kernel
theorem dX5_cut_28 : decode cX5_cut 28 = .ok (.iconst 5, 1) := by decide +kernel
theorem dX5_cut_29 : decode cX5_cut 29 = .ok (.iload_n 1, 1) := by decide +kernel
theorem dX5_cut_30 : decode cX5_cut 30 = .ok (.imul, 1) := by decide +kernel
theorem dX5_cut_31 : decode cX5_cut 31 = .ok (.iload_n 2, 1) := by decide +kernel
theorem dX5_cut_32 : decode cX5_cut 32 = .ok (.iadd, 1) := by decide +kernel
theorem dX5_cut_33 : decode cX5_cut 33 = .ok (.baload, 1) := by decide +kernel
theorem dX5_cut_34 : decode cX5_cut 34 = .ok (.ifCond .eq 7, 3) := by decide +kernel
theorem dX5_cut_37 : decode cX5_cut 37 = .ok (.iconst 1, 1) := by decide +kernel
theorem dX5_cut_38 : decode cX5_cut 38 = .ok (.goto 4, 3) := by decide +kernel
theorem dX5_cut_41 : decode cX5_cut 41 = .ok (.iconst 0, 1) := by decide +kernel
theorem dX5_cut_42 : decode cX5_cut 42 = .ok (.istore 4, 2) := by decide +kernel
theorem dX5_cut_44 : decode cX5_cut 44 = .ok (.aload_n 0, 1) := by decide +kernel
theorem dX5_cut_45 : decode cX5_cut 45 = .ok (.getfield 53, 3) := by decide +kernel
theorem dX5_cut_48 : decode cX5_cut 48 = .ok (.iconst 5, 1) := by decide +kernel
theorem dX5_cut_49 : decode cX5_cut 49 = .ok (.iload_n 1, 1) := by decide +kernel
theorem dX5_cut_50 : decode cX5_cut 50 = .ok (.imul, 1) := by decide +kernel
theorem dX5_cut_51 : decode cX5_cut 51 = .ok (.iload_n 2, 1) := by decide +kernel
theorem dX5_cut_52 : decode cX5_cut 52 = .ok (.iadd, 1) := by decide +kernel
theorem dX5_cut_53 : decode cX5_cut 53 = .ok (.iload_n 3, 1) := by decide +kernel
theorem dX5_cut_54 : decode cX5_cut 54 = .ok (.bastore, 1) := by decide +kernel
theorem dX5_cut_55 : decode cX5_cut 55 = .ok (.aload_n 0, 1) := by decide +kernel
theorem dX5_cut_56 : decode cX5_cut 56 = .ok (.getfield 53, 3) := by decide +kernel
theorem dX5_cut_59 : decode cX5_cut 59 = .ok (.iconst 5, 1) := by decide +kernel
theorem dX5_cut_60 : decode cX5_cut 60 = .ok (.iload_n 2, 1) := by decide +kernel
theorem dX5_cut_61 : decode cX5_cut 61 = .ok (.imul, 1) := by decide +kernel
theorem dX5_cut_62 : decode cX5_cut 62 = .ok (.iload_n 1, 1) := by decide +kernel
theorem dX5_cut_63 : decode cX5_cut 63 = .ok (.iadd, 1) := by decide +kernel
theorem dX5_cut_64 : decode cX5_cut 64 = .ok (.iload_n 3, 1) := by decide +kernel
theorem dX5_cut_65 : decode cX5_cut 65 = .ok (.bastore, 1) := by decide +kernel
theorem dX5_cut_66 : decode cX5_cut 66 = .ok (.iload 4, 2) := by decide +kernel
theorem dX5_cut_68 : decode cX5_cut 68 = .ok (.ireturn, 1) := by decide +kernel
set_option maxRecDepth 20000 in
theorem ggX5_timeout_X5_isNode : GoodIn wsX5_timeout wsX5_isNode := goodIn_r _ [7, 8, 9, 10, 6, 11, 48, 49, 50, 51, 52, 53, 54, 55, 56, 57, 58, 59, 60, 61, 62, 63, 64, 65, 66, 67, 68, 69, 70, 71, 72, 73] (by decide +kernel) (by decide +kernel)
set_option maxRecDepth 20000 in
theorem gX5_timeout_X5_isNode : GoodIn wsX5_timeout (wsV RX5 145 RX5 yX5_isNode wsX5_isNode) := goodIn_app (goodIn_of _ (by decide +kernel)) ggX5_timeout_X5_isNode
set_option maxRecDepth 20000 in
theorem ggX5_timeout_X5_changes : GoodIn wsX5_timeout wsX5_changes := goodIn_r _ [15, 2, 1, 16, 17, 18, 6, 19, 20, 21, 22, 23, 24, 25, 26, 8, 27, 28, 29, 30, 31, 32, 33, 34, 35, 36, 37, 38, 39, 40, 41, 42, 43, 44, 45, 46, 47, 48, 49, 50, 51, 52, 53, 54, 55, 56, 57, 58, 59, 60, 61, 62, 63, 64, 65, 66, 67, 68, 69, 70, 71, 72, 73] (by decide +kernel) (by decide +kernel)
set_option maxRecDepth 20000 in
theorem gX5_timeout_X5_changes : GoodIn wsX5_timeout (wsV RX5 131 RX5 yX5_changes wsX5_changes) := goodIn_app (goodIn_of _ (by decide +kernel)) ggX5_timeout_X5_changes
theorem dX5_timeout_0 : decode cX5_timeout 0 = .ok (.aload_n 0, 1) := by decide +kernel
theorem dX5_timeout_1 : decode cX5_timeout 1 = .ok (.iload_n 1, 1) := by decide +kernel
theorem dX5_timeout_2 : decode cX5_timeout 2 = .ok (.invokevirtual 145, 3) := by decide +kernel
theorem dX5_timeout_5 : decode cX5_timeout 5 = .ok (.ifCond .ne 6, 3) := by decide +kernel
theorem dX5_timeout_8 : decode cX5_timeout 8 = .ok (.bipush (-2), 2) := by decide +kernel
theorem dX5_timeout_10 : decode cX5_timeout 10 = .ok (.ireturn, 1) := by decide +kernel
theorem dX5_timeout_11 : decode cX5_timeout 11 = .ok (.aload_n 0, 1) := by decide +kernel
theorem dX5_timeout_12 : decode cX5_timeout 12 = .ok (.getfield 19, 3) := by decide +kernel
theorem dX5_timeout_15 : decode cX5_timeout 15 = .ok (.iload_n 1, 1) := by decide +kernel
theorem dX5_timeout_16 : decode cX5_timeout 16 = .ok (.iaload, 1) := by decide +kernel
theorem dX5_timeout_17 : decode cX5_timeout 17 = .ok (.iconst 2, 1) := by decide +kernel
theorem dX5_timeout_18 : decode cX5_timeout 18 = .ok (.if_icmp .lt 6, 3) := by decide +kernel
theorem dX5_timeout_21 : decode cX5_timeout 21 = .ok (.bipush (-3), 2) := by decide +kernel
theorem dX5_timeout_23 : decode cX5_timeout 23 = .ok (.ireturn, 1) := by decide +kernel
theorem dX5_timeout_24 : decode cX5_timeout 24 = .ok (.aload_n 0, 1) := by decide +kernel
theorem dX5_timeout_25 : decode cX5_timeout 25 = .ok (.getfield 22, 3) := by decide +kernel
theorem dX5_timeout_28 : decode cX5_timeout 28 = .ok (.iload_n 1, 1) := by decide +kernel
theorem dX5_timeout_29 : decode cX5_timeout 29 = .ok (.iaload, 1) := by decide +kernel
theorem dX5_timeout_30 : decode cX5_timeout 30 = .ok (.sipush 1000, 3) := by decide +kernel
theorem dX5_timeout_33 : decode cX5_timeout 33 = .ok (.if_icmp .ne 6, 3) := by decide +kernel
theorem dX5_timeout_36 : decode cX5_timeout 36 = .ok (.bipush (-4), 2) := by decide +kernel
theorem dX5_timeout_38 : decode cX5_timeout 38 = .ok (.ireturn, 1) := by decide +kernel
theorem dX5_timeout_39 : decode cX5_timeout 39 = .ok (.aload_n 0, 1) := by decide +kernel
theorem dX5_timeout_40 : decode cX5_timeout 40 = .ok (.iload_n 1, 1) := by decide +kernel
theorem dX5_timeout_41 : decode cX5_timeout 41 = .ok (.aload_n 0, 1) := by decide +kernel
theorem dX5_timeout_42 : decode cX5_timeout 42 = .ok (.getfield 22, 3) := by decide +kernel
theorem dX5_timeout_45 : decode cX5_timeout 45 = .ok (.iload_n 1, 1) := by decide +kernel
theorem dX5_timeout_46 : decode cX5_timeout 46 = .ok (.iaload, 1) := by decide +kernel
theorem dX5_timeout_47 : decode cX5_timeout 47 = .ok (.iconst 1, 1) := by decide +kernel
theorem dX5_timeout_48 : decode cX5_timeout 48 = .ok (.iadd, 1) := by decide +kernel
theorem dX5_timeout_49 : decode cX5_timeout 49 = .ok (.invokevirtual 131, 3) := by decide +kernel
theorem dX5_timeout_52 : decode cX5_timeout 52 = .ok (.aload_n 0, 1) := by decide +kernel
theorem dX5_timeout_53 : decode cX5_timeout 53 = .ok (.getfield 22, 3) := by decide +kernel
theorem dX5_timeout_56 : decode cX5_timeout 56 = .ok (.iload_n 1, 1) := by decide +kernel
theorem dX5_timeout_57 : decode cX5_timeout 57 = .ok (.iaload, 1) := by decide +kernel
theorem dX5_timeout_58 : decode cX5_timeout 58 = .ok (.ireturn, 1) := by decide +kernel
set_option maxRecDepth 20000 in
theorem ggX5_resend_X5_isNode : GoodIn wsX5_resend wsX5_isNode := goodIn_r _ [11, 4, 12, 13, 10, 14, 48, 49, 50, 51, 52, 53, 54, 55, 56, 57, 58, 59, 60, 61, 62, 63, 64, 65, 66, 67, 68, 69, 70, 71, 72, 73] (by decide +kernel) (by decide +kernel)
set_option maxRecDepth 20000 in
theorem gX5_resend_X5_isNode : GoodIn wsX5_resend (wsV RX5 145 RX5 yX5_isNode wsX5_isNode) := goodIn_app (goodIn_of _ (by decide +kernel)) ggX5_resend_X5_isNode
set_option maxRecDepth 20000 in
theorem ggX5_resend_X5_isFirst : GoodIn wsX5_resend wsX5_isFirst := goodIn_r _ [18, 2, 4, 48, 49, 50, 51, 52, 53, 54, 55, 56, 57, 58, 59, 60, 61, 62, 63, 64, 65, 66, 67, 68, 69, 70, 71, 72, 73] (by decide +kernel) (by decide +kernel)
set_option maxRecDepth 20000 in
theorem gX5_resend_X5_isFirst : GoodIn wsX5_resend (wsV RX5 121 RX5 yX5_isFirst wsX5_isFirst) := goodIn_app (goodIn_of _ (by decide +kernel)) ggX5_resend_X5_isFirst
set_option maxRecDepth 20000 in
theorem ggX5_resend_X5_postAll : GoodIn wsX5_resend wsX5_postAll := goodIn_r _ [22, 4, 23, 24, 25, 10, 26, 27, 28, 29, 30, 31, 32, 33, 34, 35, 36, 37, 38, 39, 40, 41, 42, 43, 48, 49, 50, 51, 52, 53, 54, 55, 56, 57, 58, 59, 60, 61, 62, 63, 64, 65, 66, 67, 68, 69, 70, 71, 72, 73] (by decide +kernel) (by decide +kernel)
set_option maxRecDepth 20000 in
theorem gX5_resend_X5_postAll : GoodIn wsX5_resend (wsV RX5 127 RX5 yX5_postAll wsX5_postAll) := goodIn_app (goodIn_of _ (by decide +kernel)) ggX5_resend_X5_postAll
set_option maxRecDepth 20000 in
theorem ggX5_resend_X5_postOk : GoodIn wsX5_resend wsX5_postOk := goodIn_r _ [47, 2, 4, 41, 23, 24, 25, 10, 26, 27, 28, 29, 30, 31, 32, 33, 34, 35, 36, 37, 38, 39, 40, 42, 43, 48, 49, 50, 51, 52, 53, 54, 55, 56, 57, 58, 59, 60, 61, 62, 63, 64, 65, 66, 67, 68, 69, 70, 71, 72, 73] (by decide +kernel) (by decide +kernel)
set_option maxRecDepth 20000 in
theorem gX5_resend_X5_postOk : GoodIn wsX5_resend (wsV RX5 113 RX5 yX5_postOk wsX5_postOk) := goodIn_app (goodIn_of _ (by decide +kernel)) ggX5_resend_X5_postOk
set_option maxRecDepth 20000 in
theorem ggX5_resend_X5_post : GoodIn wsX5_resend wsX5_post := goodIn_r _ [26, 27, 28, 29, 30, 31, 32, 33, 34, 35, 10, 36, 37, 38, 39, 40, 41, 42, 43, 48, 49, 50, 51, 52, 53, 54, 55, 56, 57, 58, 59, 60, 61, 62, 63, 64, 65, 66, 67, 68, 69, 70, 71, 72, 73] (by decide +kernel) (by decide +kernel)
set_option maxRecDepth 20000 in
theorem gX5_resend_X5_post : GoodIn wsX5_resend (wsV RX5 102 RX5 yX5_post wsX5_post) := goodIn_app (goodIn_of _ (by decide +kernel)) ggX5_resend_X5_post
theorem dX5_resend_0 : decode cX5_resend 0 = .ok (.aload_n 0, 1) := by decide +kernel
theorem dX5_resend_1 : decode cX5_resend 1 = .ok (.iload_n 1, 1) := by decide +kernel
theorem dX5_resend_2 : decode cX5_resend 2 = .ok (.invokevirtual 145, 3) := by decide +kernel
theorem dX5_resend_5 : decode cX5_resend 5 = .ok (.ifCond .ne 6, 3) := by decide +kernel
theorem dX5_resend_8 : decode cX5_resend 8 = .ok (.bipush (-2), 2) := by decide +kernel
theorem dX5_resend_10 : decode cX5_resend 10 = .ok (.ireturn, 1) := by decide +kernel
theorem dX5_resend_11 : decode cX5_resend 11 = .ok (.aload_n 0, 1) := by decide +kernel
theorem dX5_resend_12 : decode cX5_resend 12 = .ok (.getfield 19, 3) := by decide +kernel
theorem dX5_resend_15 : decode cX5_resend 15 = .ok (.iload_n 1, 1) := by decide +kernel
theorem dX5_resend_16 : decode cX5_resend 16 = .ok (.iaload, 1) := by decide +kernel
theorem dX5_resend_17 : decode cX5_resend 17 = .ok (.tableswitch 136 0 2 #[27, 56, 121], 27) := by decide +kernel
theorem dX5_resend_44 : decode cX5_resend 44 = .ok (.aload_n 0, 1) := by decide +kernel
theorem dX5_resend_45 : decode cX5_resend 45 = .ok (.iload_n 1, 1) := by decide +kernel
theorem dX5_resend_46 : decode cX5_resend 46 = .ok (.invokevirtual 121, 3) := by decide +kernel
theorem dX5_resend_49 : decode cX5_resend 49 = .ok (.ifCond .eq 17, 3) := by decide +kernel
theorem dX5_resend_52 : decode cX5_resend 52 = .ok (.aload_n 0, 1) := by decide +kernel
theorem dX5_resend_53 : decode cX5_resend 53 = .ok (.iload_n 1, 1) := by decide +kernel
theorem dX5_resend_54 : decode cX5_resend 54 = .ok (.iconst 1, 1) := by decide +kernel
theorem dX5_resend_55 : decode cX5_resend 55 = .ok (.aload_n 0, 1) := by decide +kernel
theorem dX5_resend_56 : decode cX5_resend 56 = .ok (.getfield 22, 3) := by decide +kernel
theorem dX5_resend_59 : decode cX5_resend 59 = .ok (.iload_n 1, 1) := by decide +kernel
theorem dX5_resend_60 : decode cX5_resend 60 = .ok (.iaload, 1) := by decide +kernel
theorem dX5_resend_61 : decode cX5_resend 61 = .ok (.iconst 0, 1) := by decide +kernel
theorem dX5_resend_62 : decode cX5_resend 62 = .ok (.invokevirtual 127, 3) := by decide +kernel
theorem dX5_resend_65 : decode cX5_resend 65 = .ok (.ireturn, 1) := by decide +kernel
theorem dX5_resend_66 : decode cX5_resend 66 = .ok (.aload_n 0, 1) := by decide +kernel
theorem dX5_resend_67 : decode cX5_resend 67 = .ok (.iload_n 1, 1) := by decide +kernel
theorem dX5_resend_68 : decode cX5_resend 68 = .ok (.invokevirtual 113, 3) := by decide +kernel
theorem dX5_resend_71 : decode cX5_resend 71 = .ok (.iconst 1, 1) := by decide +kernel
theorem dX5_resend_72 : decode cX5_resend 72 = .ok (.ireturn, 1) := by decide +kernel
theorem dX5_resend_73 : decode cX5_resend 73 = .ok (.aload_n 0, 1) := by decide +kernel
theorem dX5_resend_74 : decode cX5_resend 74 = .ok (.iload_n 1, 1) := by decide +kernel
theorem dX5_resend_75 : decode cX5_resend 75 = .ok (.iconst 3, 1) := by decide +kernel
theorem dX5_resend_76 : decode cX5_resend 76 = .ok (.aload_n 0, 1) := by decide +kernel
theorem dX5_resend_77 : decode cX5_resend 77 = .ok (.getfield 22, 3) := by decide +kernel
theorem dX5_resend_80 : decode cX5_resend 80 = .ok (.iload_n 1, 1) := by decide +kernel
theorem dX5_resend_81 : decode cX5_resend 81 = .ok (.iaload, 1) := by decide +kernel
theorem dX5_resend_82 : decode cX5_resend 82 = .ok (.iconst 0, 1) := by decide +kernel
theorem dX5_resend_83 : decode cX5_resend 83 = .ok (.invokevirtual 127, 3) := by decide +kernel
theorem dX5_resend_86 : decode cX5_resend 86 = .ok (.istore_n 2, 1) := by decide +kernel
theorem dX5_resend_87 : decode cX5_resend 87 = .ok (.aload_n 0, 1) := by decide +kernel
theorem dX5_resend_88 : decode cX5_resend 88 = .ok (.getfield 28, 3) := by decide +kernel
theorem dX5_resend_91 : decode cX5_resend 91 = .ok (.iload_n 1, 1) := by decide +kernel
theorem dX5_resend_92 : decode cX5_resend 92 = .ok (.baload, 1) := by decide +kernel
theorem dX5_resend_93 : decode cX5_resend 93 = .ok (.ifCond .eq 43, 3) := by decide +kernel
theorem dX5_resend_96 : decode cX5_resend 96 = .ok (.aload_n 0, 1) := by decide +kernel
theorem dX5_resend_97 : decode cX5_resend 97 = .ok (.iload_n 1, 1) := by decide +kernel
theorem dX5_resend_98 : decode cX5_resend 98 = .ok (.invokevirtual 121, 3) := by decide +kernel
theorem dX5_resend_101 : decode cX5_resend 101 = .ok (.ifCond .ne 35, 3) := by decide +kernel
theorem dX5_resend_104 : decode cX5_resend 104 = .ok (.aload_n 0, 1) := by decide +kernel
theorem dX5_resend_105 : decode cX5_resend 105 = .ok (.iload_n 1, 1) := by decide +kernel
theorem dX5_resend_106 : decode cX5_resend 106 = .ok (.aload_n 0, 1) := by decide +kernel
theorem dX5_resend_107 : decode cX5_resend 107 = .ok (.getfield 22, 3) := by decide +kernel
theorem dX5_resend_110 : decode cX5_resend 110 = .ok (.iload_n 1, 1) := by decide +kernel
theorem dX5_resend_111 : decode cX5_resend 111 = .ok (.iaload, 1) := by decide +kernel
theorem dX5_resend_112 : decode cX5_resend 112 = .ok (.aload_n 0, 1) := by decide +kernel
theorem dX5_resend_113 : decode cX5_resend 113 = .ok (.getfield 77, 3) := by decide +kernel
theorem dX5_resend_116 : decode cX5_resend 116 = .ok (.irem, 1) := by decide +kernel
theorem dX5_resend_117 : decode cX5_resend 117 = .ok (.iconst 4, 1) := by decide +kernel
theorem dX5_resend_118 : decode cX5_resend 118 = .ok (.aload_n 0, 1) := by decide +kernel
theorem dX5_resend_119 : decode cX5_resend 119 = .ok (.getfield 22, 3) := by decide +kernel
theorem dX5_resend_122 : decode cX5_resend 122 = .ok (.iload_n 1, 1) := by decide +kernel
theorem dX5_resend_123 : decode cX5_resend 123 = .ok (.iaload, 1) := by decide +kernel
theorem dX5_resend_124 : decode cX5_resend 124 = .ok (.aload_n 0, 1) := by decide +kernel
theorem dX5_resend_125 : decode cX5_resend 125 = .ok (.getfield 25, 3) := by decide +kernel
theorem dX5_resend_128 : decode cX5_resend 128 = .ok (.iload_n 1, 1) := by decide +kernel
theorem dX5_resend_129 : decode cX5_resend 129 = .ok (.iaload, 1) := by decide +kernel
theorem dX5_resend_130 : decode cX5_resend 130 = .ok (.invokevirtual 102, 3) := by decide +kernel
theorem dX5_resend_133 : decode cX5_resend 133 = .ok (.iinc 2 1, 3) := by decide +kernel
theorem dX5_resend_136 : decode cX5_resend 136 = .ok (.iload_n 2, 1) := by decide +kernel
theorem dX5_resend_137 : decode cX5_resend 137 = .ok (.ireturn, 1) := by decide +kernel
theorem dX5_resend_138 : decode cX5_resend 138 = .ok (.aload_n 0, 1) := by decide +kernel
theorem dX5_resend_139 : decode cX5_resend 139 = .ok (.iload_n 1, 1) := by decide +kernel
theorem dX5_resend_140 : decode cX5_resend 140 = .ok (.bipush 6, 2) := by decide +kernel
theorem dX5_resend_142 : decode cX5_resend 142 = .ok (.iconst 0, 1) := by decide +kernel
theorem dX5_resend_143 : decode cX5_resend 143 = .ok (.aload_n 0, 1) := by decide +kernel
theorem dX5_resend_144 : decode cX5_resend 144 = .ok (.getfield 32, 3) := by decide +kernel
theorem dX5_resend_147 : decode cX5_resend 147 = .ok (.iload_n 1, 1) := by decide +kernel
theorem dX5_resend_148 : decode cX5_resend 148 = .ok (.iaload, 1) := by decide +kernel
theorem dX5_resend_149 : decode cX5_resend 149 = .ok (.invokevirtual 127, 3) := by decide +kernel
theorem dX5_resend_152 : decode cX5_resend 152 = .ok (.ireturn, 1) := by decide +kernel
theorem dX5_resend_153 : decode cX5_resend 153 = .ok (.bipush (-3), 2) := by decide +kernel
theorem dX5_resend_155 : decode cX5_resend 155 = .ok (.ireturn, 1) := by decide +kernel
set_option maxRecDepth 20000 in
theorem ggX5_crash_X5_isNode : GoodIn wsX5_crash wsX5_isNode := goodIn_r _ [12, 13, 14, 15, 11, 16, 24, 25, 26, 27, 28, 29, 30, 31, 32, 33, 34, 35, 36, 37, 38, 39, 40, 41, 42, 43, 44, 45, 46, 47, 48, 49] (by decide +kernel) (by decide +kernel)
set_option maxRecDepth 20000 in
theorem gX5_crash_X5_isNode : GoodIn wsX5_crash (wsV RX5 145 RX5 yX5_isNode wsX5_isNode) := goodIn_app (goodIn_of _ (by decide +kernel)) ggX5_crash_X5_isNode
set_option maxRecDepth 20000 in
theorem ggX5_crash_X5_forget : GoodIn wsX5_crash wsX5_forget := goodIn_r _ [20, 21, 22, 23, 24, 25, 26, 27, 28, 29, 30, 31, 32, 33, 34, 35, 36, 37, 38, 39, 40, 41, 42, 43, 44, 45, 46, 47, 48, 49] (by decide +kernel) (by decide +kernel)
set_option maxRecDepth 20000 in
theorem gX5_crash_X5_forget : GoodIn wsX5_crash (wsV RX5 124 RX5 yX5_forget wsX5_forget) := goodIn_app (goodIn_of _ (by decide +kernel)) ggX5_crash_X5_forget
theorem dX5_crash_0 : decode cX5_crash 0 = .ok (.aload_n 0, 1) := by decide +kernel
theorem dX5_crash_1 : decode cX5_crash 1 = .ok (.iload_n 1, 1) := by decide +kernel
theorem dX5_crash_2 : decode cX5_crash 2 = .ok (.invokevirtual 145, 3) := by decide +kernel
theorem dX5_crash_5 : decode cX5_crash 5 = .ok (.ifCond .ne 6, 3) := by decide +kernel
theorem dX5_crash_8 : decode cX5_crash 8 = .ok (.bipush (-2), 2) := by decide +kernel
theorem dX5_crash_10 : decode cX5_crash 10 = .ok (.ireturn, 1) := by decide +kernel
theorem dX5_crash_11 : decode cX5_crash 11 = .ok (.aload_n 0, 1) := by decide +kernel
theorem dX5_crash_12 : decode cX5_crash 12 = .ok (.getfield 19, 3) := by decide +kernel
theorem dX5_crash_15 : decode cX5_crash 15 = .ok (.iload_n 1, 1) := by decide +kernel
theorem dX5_crash_16 : decode cX5_crash 16 = .ok (.iaload, 1) := by decide +kernel
theorem dX5_crash_17 : decode cX5_crash 17 = .ok (.iconst 3, 1) := by decide +kernel
theorem dX5_crash_18 : decode cX5_crash 18 = .ok (.if_icmp .ne 6, 3) := by decide +kernel
theorem dX5_crash_21 : decode cX5_crash 21 = .ok (.bipush (-3), 2) := by decide +kernel
theorem dX5_crash_23 : decode cX5_crash 23 = .ok (.ireturn, 1) := by decide +kernel
theorem dX5_crash_24 : decode cX5_crash 24 = .ok (.aload_n 0, 1) := by decide +kernel
theorem dX5_crash_25 : decode cX5_crash 25 = .ok (.getfield 13, 3) := by decide +kernel
theorem dX5_crash_28 : decode cX5_crash 28 = .ok (.iload_n 1, 1) := by decide +kernel
theorem dX5_crash_29 : decode cX5_crash 29 = .ok (.iaload, 1) := by decide +kernel
theorem dX5_crash_30 : decode cX5_crash 30 = .ok (.istore_n 2, 1) := by decide +kernel
theorem dX5_crash_31 : decode cX5_crash 31 = .ok (.aload_n 0, 1) := by decide +kernel
theorem dX5_crash_32 : decode cX5_crash 32 = .ok (.getfield 19, 3) := by decide +kernel
theorem dX5_crash_35 : decode cX5_crash 35 = .ok (.iload_n 1, 1) := by decide +kernel
theorem dX5_crash_36 : decode cX5_crash 36 = .ok (.iconst 3, 1) := by decide +kernel
theorem dX5_crash_37 : decode cX5_crash 37 = .ok (.iastore, 1) := by decide +kernel
theorem dX5_crash_38 : decode cX5_crash 38 = .ok (.aload_n 0, 1) := by decide +kernel
theorem dX5_crash_39 : decode cX5_crash 39 = .ok (.getfield 22, 3) := by decide +kernel
theorem dX5_crash_42 : decode cX5_crash 42 = .ok (.iload_n 1, 1) := by decide +kernel
theorem dX5_crash_43 : decode cX5_crash 43 = .ok (.iconst 0, 1) := by decide +kernel
theorem dX5_crash_44 : decode cX5_crash 44 = .ok (.iastore, 1) := by decide +kernel
theorem dX5_crash_45 : decode cX5_crash 45 = .ok (.aload_n 0, 1) := by decide +kernel
theorem dX5_crash_46 : decode cX5_crash 46 = .ok (.getfield 25, 3) := by decide +kernel
theorem dX5_crash_49 : decode cX5_crash 49 = .ok (.iload_n 1, 1) := by decide +kernel
theorem dX5_crash_50 : decode cX5_crash 50 = .ok (.iconst 0, 1) := by decide +kernel
theorem dX5_crash_51 : decode cX5_crash 51 = .ok (.iastore, 1) := by decide +kernel
theorem dX5_crash_52 : decode cX5_crash 52 = .ok (.aload_n 0, 1) := by decide +kernel
theorem dX5_crash_53 : decode cX5_crash 53 = .ok (.getfield 13, 3) := by decide +kernel
theorem dX5_crash_56 : decode cX5_crash 56 = .ok (.iload_n 1, 1) := by decide +kernel
theorem dX5_crash_57 : decode cX5_crash 57 = .ok (.iconst 0, 1) := by decide +kernel
theorem dX5_crash_58 : decode cX5_crash 58 = .ok (.iastore, 1) := by decide +kernel
theorem dX5_crash_59 : decode cX5_crash 59 = .ok (.aload_n 0, 1) := by decide +kernel
theorem dX5_crash_60 : decode cX5_crash 60 = .ok (.getfield 16, 3) := by decide +kernel
theorem dX5_crash_63 : decode cX5_crash 63 = .ok (.iload_n 1, 1) := by decide +kernel
theorem dX5_crash_64 : decode cX5_crash 64 = .ok (.iconst 0, 1) := by decide +kernel
theorem dX5_crash_65 : decode cX5_crash 65 = .ok (.iastore, 1) := by decide +kernel
theorem dX5_crash_66 : decode cX5_crash 66 = .ok (.aload_n 0, 1) := by decide +kernel
theorem dX5_crash_67 : decode cX5_crash 67 = .ok (.iload_n 1, 1) := by decide +kernel
theorem dX5_crash_68 : decode cX5_crash 68 = .ok (.invokevirtual 124, 3) := by decide +kernel
theorem dX5_crash_71 : decode cX5_crash 71 = .ok (.iconst 0, 1) := by decide +kernel
theorem dX5_crash_72 : decode cX5_crash 72 = .ok (.istore_n 3, 1) := by decide +kernel
theorem dX5_crash_73 : decode cX5_crash 73 = .ok (.iload_n 3, 1) := by decide +kernel
theorem dX5_crash_74 : decode cX5_crash 74 = .ok (.iconst 5, 1) := by decide +kernel
theorem dX5_crash_75 : decode cX5_crash 75 = .ok (.if_icmp .ge 31, 3) := by decide +kernel
theorem dX5_crash_78 : decode cX5_crash 78 = .ok (.aload_n 0, 1) := by decide +kernel
theorem dX5_crash_79 : decode cX5_crash 79 = .ok (.getfield 35, 3) := by decide +kernel
theorem dX5_crash_82 : decode cX5_crash 82 = .ok (.iconst 5, 1) := by decide +kernel
theorem dX5_crash_83 : decode cX5_crash 83 = .ok (.iload_n 1, 1) := by decide +kernel
theorem dX5_crash_84 : decode cX5_crash 84 = .ok (.imul, 1) := by decide +kernel
theorem dX5_crash_85 : decode cX5_crash 85 = .ok (.iload_n 3, 1) := by decide +kernel
theorem dX5_crash_86 : decode cX5_crash 86 = .ok (.iadd, 1) := by decide +kernel
theorem dX5_crash_87 : decode cX5_crash 87 = .ok (.iconst 0, 1) := by decide +kernel
theorem dX5_crash_88 : decode cX5_crash 88 = .ok (.iastore, 1) := by decide +kernel
theorem dX5_crash_89 : decode cX5_crash 89 = .ok (.aload_n 0, 1) := by decide +kernel
theorem dX5_crash_90 : decode cX5_crash 90 = .ok (.getfield 47, 3) := by decide +kernel
theorem dX5_crash_93 : decode cX5_crash 93 = .ok (.iconst 5, 1) := by decide +kernel
theorem dX5_crash_94 : decode cX5_crash 94 = .ok (.iload_n 1, 1) := by decide +kernel
theorem dX5_crash_95 : decode cX5_crash 95 = .ok (.imul, 1) := by decide +kernel
theorem dX5_crash_96 : decode cX5_crash 96 = .ok (.iload_n 3, 1) := by decide +kernel
theorem dX5_crash_97 : decode cX5_crash 97 = .ok (.iadd, 1) := by decide +kernel
theorem dX5_crash_98 : decode cX5_crash 98 = .ok (.iconst 0, 1) := by decide +kernel
theorem dX5_crash_99 : decode cX5_crash 99 = .ok (.bastore, 1) := by decide +kernel
theorem dX5_crash_100 : decode cX5_crash 100 = .ok (.iinc 3 1, 3) := by decide +kernel
theorem dX5_crash_103 : decode cX5_crash 103 = .ok (.goto (-30), 3) := by decide +kernel
theorem dX5_crash_106 : decode cX5_crash 106 = .ok (.iload_n 2, 1) := by decide +kernel
theorem dX5_crash_107 : decode cX5_crash 107 = .ok (.ireturn, 1) := by decide +kernel
set_option maxRecDepth 20000 in
theorem ggX5_recover_X5_isNode : GoodIn wsX5_recover wsX5_isNode := goodIn_r _ [9, 10, 11, 12, 8, 13, 39, 40, 41, 42, 43, 44, 45, 46, 47, 48, 49, 50, 51, 52, 53, 54, 55, 56, 57, 58, 59, 60, 61, 62, 63, 64] (by decide +kernel) (by decide +kernel)
set_option maxRecDepth 20000 in
theorem gX5_recover_X5_isNode : GoodIn wsX5_recover (wsV RX5 145 RX5 yX5_isNode wsX5_isNode) := goodIn_app (goodIn_of _ (by decide +kernel)) ggX5_recover_X5_isNode
set_option maxRecDepth 20000 in
theorem ggX5_recover_X5_in : GoodIn wsX5_recover wsX5_in := goodIn_r _ [13] (by decide +kernel) (by decide +kernel)
set_option maxRecDepth 20000 in
theorem gX5_recover_X5_in : GoodIn wsX5_recover (va_wsS RX5 84 yX5_in wsX5_in) := goodIn_app (goodIn_of _ (by decide +kernel)) ggX5_recover_X5_in
set_option maxRecDepth 20000 in
theorem ggX5_recover_X5_postAll : GoodIn wsX5_recover wsX5_postAll := goodIn_r _ [17, 10, 18, 19, 20, 8, 21, 22, 23, 24, 25, 26, 27, 28, 29, 30, 31, 32, 33, 34, 35, 36, 37, 38, 39, 40, 41, 42, 43, 44, 45, 46, 47, 48, 49, 50, 51, 52, 53, 54, 55, 56, 57, 58, 59, 60, 61, 62, 63, 64] (by decide +kernel) (by decide +kernel)
set_option maxRecDepth 20000 in
theorem gX5_recover_X5_postAll : GoodIn wsX5_recover (wsV RX5 127 RX5 yX5_postAll wsX5_postAll) := goodIn_app (goodIn_of _ (by decide +kernel)) ggX5_recover_X5_postAll
theorem dX5_recover_0 : decode cX5_recover 0 = .ok (.aload_n 0, 1) := by decide +kernel
theorem dX5_recover_1 : decode cX5_recover 1 = .ok (.iload_n 1, 1) := by decide +kernel
theorem dX5_recover_2 : decode cX5_recover 2 = .ok (.invokevirtual 145, 3) := by decide +kernel
theorem dX5_recover_5 : decode cX5_recover 5 = .ok (.ifCond .eq 13, 3) := by decide +kernel
theorem dX5_recover_8 : decode cX5_recover 8 = .ok (.iload_n 2, 1) := by decide +kernel
theorem dX5_recover_9 : decode cX5_recover 9 = .ok (.iconst 0, 1) := by decide +kernel
theorem dX5_recover_10 : decode cX5_recover 10 = .ok (.ldc 148, 2) := by decide +kernel
theorem dX5_recover_12 : decode cX5_recover 12 = .ok (.invokestatic 84, 3) := by decide +kernel
theorem dX5_recover_15 : decode cX5_recover 15 = .ok (.ifCond .ne 6, 3) := by decide +kernel
theorem dX5_recover_18 : decode cX5_recover 18 = .ok (.bipush (-2), 2) := by decide +kernel
theorem dX5_recover_20 : decode cX5_recover 20 = .ok (.ireturn, 1) := by decide +kernel
theorem dX5_recover_21 : decode cX5_recover 21 = .ok (.aload_n 0, 1) := by decide +kernel
theorem dX5_recover_22 : decode cX5_recover 22 = .ok (.getfield 19, 3) := by decide +kernel
theorem dX5_recover_25 : decode cX5_recover 25 = .ok (.iload_n 1, 1) := by decide +kernel
theorem dX5_recover_26 : decode cX5_recover 26 = .ok (.iaload, 1) := by decide +kernel
theorem dX5_recover_27 : decode cX5_recover 27 = .ok (.iconst 3, 1) := by decide +kernel
theorem dX5_recover_28 : decode cX5_recover 28 = .ok (.if_icmp .eq 6, 3) := by decide +kernel
theorem dX5_recover_31 : decode cX5_recover 31 = .ok (.bipush (-3), 2) := by decide +kernel
theorem dX5_recover_33 : decode cX5_recover 33 = .ok (.ireturn, 1) := by decide +kernel
theorem dX5_recover_34 : decode cX5_recover 34 = .ok (.aload_n 0, 1) := by decide +kernel
theorem dX5_recover_35 : decode cX5_recover 35 = .ok (.getfield 19, 3) := by decide +kernel
theorem dX5_recover_38 : decode cX5_recover 38 = .ok (.iload_n 1, 1) := by decide +kernel
theorem dX5_recover_39 : decode cX5_recover 39 = .ok (.iconst 2, 1) := by decide +kernel
theorem dX5_recover_40 : decode cX5_recover 40 = .ok (.iastore, 1) := by decide +kernel
theorem dX5_recover_41 : decode cX5_recover 41 = .ok (.aload_n 0, 1) := by decide +kernel
theorem dX5_recover_42 : decode cX5_recover 42 = .ok (.getfield 32, 3) := by decide +kernel
theorem dX5_recover_45 : decode cX5_recover 45 = .ok (.iload_n 1, 1) := by decide +kernel
theorem dX5_recover_46 : decode cX5_recover 46 = .ok (.iload_n 2, 1) := by decide +kernel
theorem dX5_recover_47 : decode cX5_recover 47 = .ok (.iastore, 1) := by decide +kernel
theorem dX5_recover_48 : decode cX5_recover 48 = .ok (.iconst 0, 1) := by decide +kernel
theorem dX5_recover_49 : decode cX5_recover 49 = .ok (.istore_n 3, 1) := by decide +kernel
theorem dX5_recover_50 : decode cX5_recover 50 = .ok (.iload_n 3, 1) := by decide +kernel
theorem dX5_recover_51 : decode cX5_recover 51 = .ok (.iconst 5, 1) := by decide +kernel
theorem dX5_recover_52 : decode cX5_recover 52 = .ok (.if_icmp .ge 20, 3) := by decide +kernel
theorem dX5_recover_55 : decode cX5_recover 55 = .ok (.aload_n 0, 1) := by decide +kernel
theorem dX5_recover_56 : decode cX5_recover 56 = .ok (.getfield 47, 3) := by decide +kernel
theorem dX5_recover_59 : decode cX5_recover 59 = .ok (.iconst 5, 1) := by decide +kernel
theorem dX5_recover_60 : decode cX5_recover 60 = .ok (.iload_n 1, 1) := by decide +kernel
theorem dX5_recover_61 : decode cX5_recover 61 = .ok (.imul, 1) := by decide +kernel
theorem dX5_recover_62 : decode cX5_recover 62 = .ok (.iload_n 3, 1) := by decide +kernel
theorem dX5_recover_63 : decode cX5_recover 63 = .ok (.iadd, 1) := by decide +kernel
theorem dX5_recover_64 : decode cX5_recover 64 = .ok (.iconst 0, 1) := by decide +kernel
theorem dX5_recover_65 : decode cX5_recover 65 = .ok (.bastore, 1) := by decide +kernel
theorem dX5_recover_66 : decode cX5_recover 66 = .ok (.iinc 3 1, 3) := by decide +kernel
theorem dX5_recover_69 : decode cX5_recover 69 = .ok (.goto (-19), 3) := by decide +kernel
theorem dX5_recover_72 : decode cX5_recover 72 = .ok (.aload_n 0, 1) := by decide +kernel
theorem dX5_recover_73 : decode cX5_recover 73 = .ok (.iload_n 1, 1) := by decide +kernel
theorem dX5_recover_74 : decode cX5_recover 74 = .ok (.bipush 6, 2) := by decide +kernel
theorem dX5_recover_76 : decode cX5_recover 76 = .ok (.iconst 0, 1) := by decide +kernel
theorem dX5_recover_77 : decode cX5_recover 77 = .ok (.iload_n 2, 1) := by decide +kernel
theorem dX5_recover_78 : decode cX5_recover 78 = .ok (.invokevirtual 127, 3) := by decide +kernel
theorem dX5_recover_81 : decode cX5_recover 81 = .ok (.istore_n 3, 1) := by decide +kernel
theorem dX5_recover_82 : decode cX5_recover 82 = .ok (.iconst 1, 1) := by decide +kernel
theorem dX5_recover_83 : decode cX5_recover 83 = .ok (.ireturn, 1) := by decide +kernel
theorem dX5_tales_0 : decode cX5_tales 0 = .ok (.iconst 0, 1) := by decide +kernel
theorem dX5_tales_1 : decode cX5_tales 1 = .ok (.istore_n 2, 1) := by decide +kernel
theorem dX5_tales_2 : decode cX5_tales 2 = .ok (.iconst 0, 1) := by decide +kernel
theorem dX5_tales_3 : decode cX5_tales 3 = .ok (.istore_n 3, 1) := by decide +kernel
theorem dX5_tales_4 : decode cX5_tales 4 = .ok (.iload_n 3, 1) := by decide +kernel
theorem dX5_tales_5 : decode cX5_tales 5 = .ok (.aload_n 0, 1) := by decide +kernel
theorem dX5_tales_6 : decode cX5_tales 6 = .ok (.getfield 77, 3) := by decide +kernel
theorem dX5_tales_9 : decode cX5_tales 9 = .ok (.if_icmp .ge 30, 3) := by decide +kernel
theorem dX5_tales_12 : decode cX5_tales 12 = .ok (.iload_n 2, 1) := by decide +kernel
theorem dX5_tales_13 : decode cX5_tales 13 = .ok (.aload_n 0, 1) := by decide +kernel
theorem dX5_tales_14 : decode cX5_tales 14 = .ok (.getfield 47, 3) := by decide +kernel
theorem dX5_tales_17 : decode cX5_tales 17 = .ok (.iconst 5, 1) := by decide +kernel
theorem dX5_tales_18 : decode cX5_tales 18 = .ok (.iload_n 1, 1) := by decide +kernel
theorem dX5_tales_19 : decode cX5_tales 19 = .ok (.imul, 1) := by decide +kernel
theorem dX5_tales_20 : decode cX5_tales 20 = .ok (.iload_n 3, 1) := by decide +kernel
theorem dX5_tales_21 : decode cX5_tales 21 = .ok (.iadd, 1) := by decide +kernel
theorem dX5_tales_22 : decode cX5_tales 22 = .ok (.baload, 1) := by decide +kernel
theorem dX5_tales_23 : decode cX5_tales 23 = .ok (.ifCond .eq 7, 3) := by decide +kernel
theorem dX5_tales_26 : decode cX5_tales 26 = .ok (.iconst 1, 1) := by decide +kernel
theorem dX5_tales_27 : decode cX5_tales 27 = .ok (.goto 4, 3) := by decide +kernel
theorem dX5_tales_30 : decode cX5_tales 30 = .ok (.iconst 0, 1) := by decide +kernel
theorem dX5_tales_31 : decode cX5_tales 31 = .ok (.iadd, 1) := by decide +kernel
theorem dX5_tales_32 : decode cX5_tales 32 = .ok (.istore_n 2, 1) := by decide +kernel
theorem dX5_tales_33 : decode cX5_tales 33 = .ok (.iinc 3 1, 3) := by decide +kernel
theorem dX5_tales_36 : decode cX5_tales 36 = .ok (.goto (-32), 3) := by decide +kernel
theorem dX5_tales_39 : decode cX5_tales 39 = .ok (.iload_n 2, 1) := by decide +kernel
theorem dX5_tales_40 : decode cX5_tales 40 = .ok (.ireturn, 1) := by decide +kernel
set_option maxRecDepth 20000 in
theorem ggX5_node_X5_isNode : GoodIn wsX5_node wsX5_isNode := goodIn_r _ [11, 12, 13, 14, 10, 15, 31, 32, 33, 34, 35, 36, 37, 38, 39, 40, 41, 42, 43, 44, 45, 46, 47, 48, 49, 50, 51, 52, 53, 54, 55, 56] (by decide +kernel) (by decide +kernel)
set_option maxRecDepth 20000 in
theorem gX5_node_X5_isNode : GoodIn wsX5_node (wsV RX5 145 RX5 yX5_isNode wsX5_isNode) := goodIn_app (goodIn_of _ (by decide +kernel)) ggX5_node_X5_isNode
set_option maxRecDepth 20000 in
theorem ggX5_node_X5_voters : GoodIn wsX5_node wsX5_voters := goodIn_r _ [19, 12, 20, 31, 32, 33, 34, 35, 36, 37, 38, 39, 40, 41, 42, 43, 44, 45, 46, 47, 48, 49, 50, 51, 52, 53, 54, 55, 56] (by decide +kernel) (by decide +kernel)
set_option maxRecDepth 20000 in
theorem gX5_node_X5_voters : GoodIn wsX5_node (wsV RX5 134 RX5 yX5_voters wsX5_voters) := goodIn_app (goodIn_of _ (by decide +kernel)) ggX5_node_X5_voters
set_option maxRecDepth 20000 in
theorem ggX5_node_X5_votes : GoodIn wsX5_node wsX5_votes := goodIn_r _ [24, 12, 25, 31, 32, 33, 34, 35, 36, 37, 38, 39, 40, 41, 42, 43, 44, 45, 46, 47, 48, 49, 50, 51, 52, 53, 54, 55, 56] (by decide +kernel) (by decide +kernel)
set_option maxRecDepth 20000 in
theorem gX5_node_X5_votes : GoodIn wsX5_node (wsV RX5 142 RX5 yX5_votes wsX5_votes) := goodIn_app (goodIn_of _ (by decide +kernel)) ggX5_node_X5_votes
set_option maxRecDepth 20000 in
theorem ggX5_node_X5_tales : GoodIn wsX5_node wsX5_tales := goodIn_r _ [29, 12, 30, 31, 32, 33, 34, 35, 36, 37, 38, 39, 40, 41, 42, 43, 44, 45, 46, 47, 48, 49, 50, 51, 52, 53, 54, 55, 56] (by decide +kernel) (by decide +kernel)
set_option maxRecDepth 20000 in
theorem gX5_node_X5_tales : GoodIn wsX5_node (wsV RX5 174 RX5 yX5_tales wsX5_tales) := goodIn_app (goodIn_of _ (by decide +kernel)) ggX5_node_X5_tales
theorem dX5_node_0 : decode cX5_node 0 = .ok (.aload_n 0, 1) := by decide +kernel
theorem dX5_node_1 : decode cX5_node 1 = .ok (.iload_n 1, 1) := by decide +kernel
theorem dX5_node_2 : decode cX5_node 2 = .ok (.invokevirtual 145, 3) := by decide +kernel
theorem dX5_node_5 : decode cX5_node 5 = .ok (.ifCond .ne 6, 3) := by decide +kernel
theorem dX5_node_8 : decode cX5_node 8 = .ok (.bipush (-2), 2) := by decide +kernel
theorem dX5_node_10 : decode cX5_node 10 = .ok (.ireturn, 1) := by decide +kernel
theorem dX5_node_11 : decode cX5_node 11 = .ok (.aload_n 0, 1) := by decide +kernel
theorem dX5_node_12 : decode cX5_node 12 = .ok (.getfield 19, 3) := by decide +kernel
theorem dX5_node_15 : decode cX5_node 15 = .ok (.iload_n 1, 1) := by decide +kernel
theorem dX5_node_16 : decode cX5_node 16 = .ok (.iaload, 1) := by decide +kernel
theorem dX5_node_17 : decode cX5_node 17 = .ok (.iconst 1, 1) := by decide +kernel
theorem dX5_node_18 : decode cX5_node 18 = .ok (.if_icmp .ne 7, 3) := by decide +kernel
theorem dX5_node_21 : decode cX5_node 21 = .ok (.iconst 1, 1) := by decide +kernel
theorem dX5_node_22 : decode cX5_node 22 = .ok (.goto 4, 3) := by decide +kernel
theorem dX5_node_25 : decode cX5_node 25 = .ok (.iconst 0, 1) := by decide +kernel
theorem dX5_node_26 : decode cX5_node 26 = .ok (.istore_n 3, 1) := by decide +kernel
theorem dX5_node_27 : decode cX5_node 27 = .ok (.iload_n 2, 1) := by decide +kernel
theorem dX5_node_28 : decode cX5_node 28 = .ok (.tableswitch 154 0 8 #[52, 59, 66, 73, 80, 87, 101, 115, 134], 52) := by decide +kernel
theorem dX5_node_80 : decode cX5_node 80 = .ok (.aload_n 0, 1) := by decide +kernel
theorem dX5_node_81 : decode cX5_node 81 = .ok (.getfield 19, 3) := by decide +kernel
theorem dX5_node_84 : decode cX5_node 84 = .ok (.iload_n 1, 1) := by decide +kernel
theorem dX5_node_85 : decode cX5_node 85 = .ok (.iaload, 1) := by decide +kernel
theorem dX5_node_86 : decode cX5_node 86 = .ok (.ireturn, 1) := by decide +kernel
theorem dX5_node_87 : decode cX5_node 87 = .ok (.aload_n 0, 1) := by decide +kernel
theorem dX5_node_88 : decode cX5_node 88 = .ok (.getfield 22, 3) := by decide +kernel
theorem dX5_node_91 : decode cX5_node 91 = .ok (.iload_n 1, 1) := by decide +kernel
theorem dX5_node_92 : decode cX5_node 92 = .ok (.iaload, 1) := by decide +kernel
theorem dX5_node_93 : decode cX5_node 93 = .ok (.ireturn, 1) := by decide +kernel
theorem dX5_node_94 : decode cX5_node 94 = .ok (.aload_n 0, 1) := by decide +kernel
theorem dX5_node_95 : decode cX5_node 95 = .ok (.getfield 25, 3) := by decide +kernel
theorem dX5_node_98 : decode cX5_node 98 = .ok (.iload_n 1, 1) := by decide +kernel
theorem dX5_node_99 : decode cX5_node 99 = .ok (.iaload, 1) := by decide +kernel
theorem dX5_node_100 : decode cX5_node 100 = .ok (.ireturn, 1) := by decide +kernel
theorem dX5_node_101 : decode cX5_node 101 = .ok (.aload_n 0, 1) := by decide +kernel
theorem dX5_node_102 : decode cX5_node 102 = .ok (.getfield 13, 3) := by decide +kernel
theorem dX5_node_105 : decode cX5_node 105 = .ok (.iload_n 1, 1) := by decide +kernel
theorem dX5_node_106 : decode cX5_node 106 = .ok (.iaload, 1) := by decide +kernel
theorem dX5_node_107 : decode cX5_node 107 = .ok (.ireturn, 1) := by decide +kernel
theorem dX5_node_108 : decode cX5_node 108 = .ok (.aload_n 0, 1) := by decide +kernel
theorem dX5_node_109 : decode cX5_node 109 = .ok (.getfield 16, 3) := by decide +kernel
theorem dX5_node_112 : decode cX5_node 112 = .ok (.iload_n 1, 1) := by decide +kernel
theorem dX5_node_113 : decode cX5_node 113 = .ok (.iaload, 1) := by decide +kernel
theorem dX5_node_114 : decode cX5_node 114 = .ok (.ireturn, 1) := by decide +kernel
theorem dX5_node_115 : decode cX5_node 115 = .ok (.iload_n 3, 1) := by decide +kernel
theorem dX5_node_116 : decode cX5_node 116 = .ok (.ifCond .eq 11, 3) := by decide +kernel
theorem dX5_node_119 : decode cX5_node 119 = .ok (.aload_n 0, 1) := by decide +kernel
theorem dX5_node_120 : decode cX5_node 120 = .ok (.iload_n 1, 1) := by decide +kernel
theorem dX5_node_121 : decode cX5_node 121 = .ok (.invokevirtual 134, 3) := by decide +kernel
theorem dX5_node_124 : decode cX5_node 124 = .ok (.goto 4, 3) := by decide +kernel
theorem dX5_node_127 : decode cX5_node 127 = .ok (.iconst 0, 1) := by decide +kernel
theorem dX5_node_128 : decode cX5_node 128 = .ok (.ireturn, 1) := by decide +kernel
theorem dX5_node_129 : decode cX5_node 129 = .ok (.iload_n 3, 1) := by decide +kernel
theorem dX5_node_130 : decode cX5_node 130 = .ok (.ifCond .eq 11, 3) := by decide +kernel
theorem dX5_node_133 : decode cX5_node 133 = .ok (.aload_n 0, 1) := by decide +kernel
theorem dX5_node_134 : decode cX5_node 134 = .ok (.iload_n 1, 1) := by decide +kernel
theorem dX5_node_135 : decode cX5_node 135 = .ok (.invokevirtual 142, 3) := by decide +kernel
theorem dX5_node_138 : decode cX5_node 138 = .ok (.goto 4, 3) := by decide +kernel
theorem dX5_node_141 : decode cX5_node 141 = .ok (.iconst 0, 1) := by decide +kernel
theorem dX5_node_142 : decode cX5_node 142 = .ok (.ireturn, 1) := by decide +kernel
theorem dX5_node_143 : decode cX5_node 143 = .ok (.iload_n 3, 1) := by decide +kernel
theorem dX5_node_144 : decode cX5_node 144 = .ok (.ifCond .eq 16, 3) := by decide +kernel
theorem dX5_node_147 : decode cX5_node 147 = .ok (.aload_n 0, 1) := by decide +kernel
theorem dX5_node_148 : decode cX5_node 148 = .ok (.getfield 28, 3) := by decide +kernel
theorem dX5_node_151 : decode cX5_node 151 = .ok (.iload_n 1, 1) := by decide +kernel
theorem dX5_node_152 : decode cX5_node 152 = .ok (.baload, 1) := by decide +kernel
theorem dX5_node_153 : decode cX5_node 153 = .ok (.ifCond .eq 7, 3) := by decide +kernel
theorem dX5_node_156 : decode cX5_node 156 = .ok (.iconst 1, 1) := by decide +kernel
theorem dX5_node_157 : decode cX5_node 157 = .ok (.goto 4, 3) := by decide +kernel
theorem dX5_node_160 : decode cX5_node 160 = .ok (.iconst 0, 1) := by decide +kernel
theorem dX5_node_161 : decode cX5_node 161 = .ok (.ireturn, 1) := by decide +kernel
theorem dX5_node_162 : decode cX5_node 162 = .ok (.aload_n 0, 1) := by decide +kernel
theorem dX5_node_163 : decode cX5_node 163 = .ok (.getfield 19, 3) := by decide +kernel
theorem dX5_node_166 : decode cX5_node 166 = .ok (.iload_n 1, 1) := by decide +kernel
theorem dX5_node_167 : decode cX5_node 167 = .ok (.iaload, 1) := by decide +kernel
theorem dX5_node_168 : decode cX5_node 168 = .ok (.iconst 2, 1) := by decide +kernel
theorem dX5_node_169 : decode cX5_node 169 = .ok (.if_icmp .ne 11, 3) := by decide +kernel
theorem dX5_node_172 : decode cX5_node 172 = .ok (.aload_n 0, 1) := by decide +kernel
theorem dX5_node_173 : decode cX5_node 173 = .ok (.iload_n 1, 1) := by decide +kernel
theorem dX5_node_174 : decode cX5_node 174 = .ok (.invokevirtual 174, 3) := by decide +kernel
theorem dX5_node_177 : decode cX5_node 177 = .ok (.goto 4, 3) := by decide +kernel
theorem dX5_node_180 : decode cX5_node 180 = .ok (.iconst 0, 1) := by decide +kernel
theorem dX5_node_181 : decode cX5_node 181 = .ok (.ireturn, 1) := by decide +kernel
theorem dX5_node_182 : decode cX5_node 182 = .ok (.bipush (-2), 2) := by decide +kernel
theorem dX5_node_184 : decode cX5_node 184 = .ok (.ireturn, 1) := by decide +kernel
set_option maxRecDepth 20000 in
theorem ggX5_entry_X5_isNode : GoodIn wsX5_entry wsX5_isNode := goodIn_r _ [8, 9, 10, 11, 7, 12, 13, 14, 15, 16, 17, 18, 19, 20, 21, 22, 23, 24, 25, 26, 27, 28, 29, 30, 31, 32, 33, 34, 35, 36, 37, 38] (by decide +kernel) (by decide +kernel)
set_option maxRecDepth 20000 in
theorem gX5_entry_X5_isNode : GoodIn wsX5_entry (wsV RX5 145 RX5 yX5_isNode wsX5_isNode) := goodIn_app (goodIn_of _ (by decide +kernel)) ggX5_entry_X5_isNode
set_option maxRecDepth 20000 in
theorem ggX5_entry_X5_in : GoodIn wsX5_entry wsX5_in := goodIn_r _ [12] (by decide +kernel) (by decide +kernel)
set_option maxRecDepth 20000 in
theorem gX5_entry_X5_in : GoodIn wsX5_entry (va_wsS RX5 84 yX5_in wsX5_in) := goodIn_app (goodIn_of _ (by decide +kernel)) ggX5_entry_X5_in
theorem dX5_entry_0 : decode cX5_entry 0 = .ok (.aload_n 0, 1) := by decide +kernel
theorem dX5_entry_1 : decode cX5_entry 1 = .ok (.iload_n 1, 1) := by decide +kernel
theorem dX5_entry_2 : decode cX5_entry 2 = .ok (.invokevirtual 145, 3) := by decide +kernel
theorem dX5_entry_5 : decode cX5_entry 5 = .ok (.ifCond .eq 26, 3) := by decide +kernel
theorem dX5_entry_8 : decode cX5_entry 8 = .ok (.iload_n 2, 1) := by decide +kernel
theorem dX5_entry_9 : decode cX5_entry 9 = .ok (.iconst 1, 1) := by decide +kernel
theorem dX5_entry_10 : decode cX5_entry 10 = .ok (.aload_n 0, 1) := by decide +kernel
theorem dX5_entry_11 : decode cX5_entry 11 = .ok (.getfield 13, 3) := by decide +kernel
theorem dX5_entry_14 : decode cX5_entry 14 = .ok (.iload_n 1, 1) := by decide +kernel
theorem dX5_entry_15 : decode cX5_entry 15 = .ok (.iaload, 1) := by decide +kernel
theorem dX5_entry_16 : decode cX5_entry 16 = .ok (.invokestatic 84, 3) := by decide +kernel
theorem dX5_entry_19 : decode cX5_entry 19 = .ok (.ifCond .eq 12, 3) := by decide +kernel
theorem dX5_entry_22 : decode cX5_entry 22 = .ok (.iload_n 3, 1) := by decide +kernel
theorem dX5_entry_23 : decode cX5_entry 23 = .ok (.iconst 0, 1) := by decide +kernel
theorem dX5_entry_24 : decode cX5_entry 24 = .ok (.iconst 5, 1) := by decide +kernel
theorem dX5_entry_25 : decode cX5_entry 25 = .ok (.invokestatic 84, 3) := by decide +kernel
theorem dX5_entry_28 : decode cX5_entry 28 = .ok (.ifCond .ne 6, 3) := by decide +kernel
theorem dX5_entry_31 : decode cX5_entry 31 = .ok (.ldc 177, 2) := by decide +kernel
theorem dX5_entry_33 : decode cX5_entry 33 = .ok (.ireturn, 1) := by decide +kernel
theorem dX5_entry_34 : decode cX5_entry 34 = .ok (.aload_n 0, 1) := by decide +kernel
theorem dX5_entry_35 : decode cX5_entry 35 = .ok (.getfield 7, 3) := by decide +kernel
theorem dX5_entry_38 : decode cX5_entry 38 = .ok (.bipush 96, 2) := by decide +kernel
theorem dX5_entry_40 : decode cX5_entry 40 = .ok (.iload_n 1, 1) := by decide +kernel
theorem dX5_entry_41 : decode cX5_entry 41 = .ok (.imul, 1) := by decide +kernel
theorem dX5_entry_42 : decode cX5_entry 42 = .ok (.bipush 6, 2) := by decide +kernel
theorem dX5_entry_44 : decode cX5_entry 44 = .ok (.iload_n 2, 1) := by decide +kernel
theorem dX5_entry_45 : decode cX5_entry 45 = .ok (.imul, 1) := by decide +kernel
theorem dX5_entry_46 : decode cX5_entry 46 = .ok (.iadd, 1) := by decide +kernel
theorem dX5_entry_47 : decode cX5_entry 47 = .ok (.bipush 6, 2) := by decide +kernel
theorem dX5_entry_49 : decode cX5_entry 49 = .ok (.isub, 1) := by decide +kernel
theorem dX5_entry_50 : decode cX5_entry 50 = .ok (.iload_n 3, 1) := by decide +kernel
theorem dX5_entry_51 : decode cX5_entry 51 = .ok (.iadd, 1) := by decide +kernel
theorem dX5_entry_52 : decode cX5_entry 52 = .ok (.iaload, 1) := by decide +kernel
theorem dX5_entry_53 : decode cX5_entry 53 = .ok (.ireturn, 1) := by decide +kernel
set_option maxRecDepth 20000 in
theorem ggX5_register_X5_isNode : GoodIn wsX5_register wsX5_isNode := goodIn_r _ [9, 10, 11, 12, 8, 13, 14, 15, 16, 17, 18, 19, 20, 21, 22, 23, 24, 25, 26, 27, 28, 29, 30, 31, 32, 33, 34, 35, 36, 37, 38, 39] (by decide +kernel) (by decide +kernel)
set_option maxRecDepth 20000 in
theorem gX5_register_X5_isNode : GoodIn wsX5_register (wsV RX5 145 RX5 yX5_isNode wsX5_isNode) := goodIn_app (goodIn_of _ (by decide +kernel)) ggX5_register_X5_isNode
set_option maxRecDepth 20000 in
theorem ggX5_register_X5_in : GoodIn wsX5_register wsX5_in := goodIn_r _ [13] (by decide +kernel) (by decide +kernel)
set_option maxRecDepth 20000 in
theorem gX5_register_X5_in : GoodIn wsX5_register (va_wsS RX5 84 yX5_in wsX5_in) := goodIn_app (goodIn_of _ (by decide +kernel)) ggX5_register_X5_in
theorem dX5_register_0 : decode cX5_register 0 = .ok (.aload_n 0, 1) := by decide +kernel
theorem dX5_register_1 : decode cX5_register 1 = .ok (.iload_n 1, 1) := by decide +kernel
theorem dX5_register_2 : decode cX5_register 2 = .ok (.invokevirtual 145, 3) := by decide +kernel
theorem dX5_register_5 : decode cX5_register 5 = .ok (.ifCond .eq 13, 3) := by decide +kernel
theorem dX5_register_8 : decode cX5_register 8 = .ok (.iload_n 2, 1) := by decide +kernel
theorem dX5_register_9 : decode cX5_register 9 = .ok (.iconst 0, 1) := by decide +kernel
theorem dX5_register_10 : decode cX5_register 10 = .ok (.bipush 7, 2) := by decide +kernel
theorem dX5_register_12 : decode cX5_register 12 = .ok (.invokestatic 84, 3) := by decide +kernel
theorem dX5_register_15 : decode cX5_register 15 = .ok (.ifCond .ne 6, 3) := by decide +kernel
theorem dX5_register_18 : decode cX5_register 18 = .ok (.ldc 177, 2) := by decide +kernel
theorem dX5_register_20 : decode cX5_register 20 = .ok (.ireturn, 1) := by decide +kernel
theorem dX5_register_21 : decode cX5_register 21 = .ok (.iconst 0, 1) := by decide +kernel
theorem dX5_register_22 : decode cX5_register 22 = .ok (.istore_n 3, 1) := by decide +kernel
theorem dX5_register_23 : decode cX5_register 23 = .ok (.iload_n 3, 1) := by decide +kernel
theorem dX5_register_24 : decode cX5_register 24 = .ok (.bipush 8, 2) := by decide +kernel
theorem dX5_register_26 : decode cX5_register 26 = .ok (.if_icmp .ge 16, 3) := by decide +kernel
theorem dX5_register_29 : decode cX5_register 29 = .ok (.aload_n 0, 1) := by decide +kernel
theorem dX5_register_30 : decode cX5_register 30 = .ok (.getfield 74, 3) := by decide +kernel
theorem dX5_register_33 : decode cX5_register 33 = .ok (.iload_n 3, 1) := by decide +kernel
theorem dX5_register_34 : decode cX5_register 34 = .ok (.iconst 0, 1) := by decide +kernel
theorem dX5_register_35 : decode cX5_register 35 = .ok (.iastore, 1) := by decide +kernel
theorem dX5_register_36 : decode cX5_register 36 = .ok (.iinc 3 1, 3) := by decide +kernel
theorem dX5_register_39 : decode cX5_register 39 = .ok (.goto (-16), 3) := by decide +kernel
theorem dX5_register_42 : decode cX5_register 42 = .ok (.iconst 0, 1) := by decide +kernel
theorem dX5_register_43 : decode cX5_register 43 = .ok (.istore_n 3, 1) := by decide +kernel
theorem dX5_register_44 : decode cX5_register 44 = .ok (.iload_n 3, 1) := by decide +kernel
theorem dX5_register_45 : decode cX5_register 45 = .ok (.aload_n 0, 1) := by decide +kernel
theorem dX5_register_46 : decode cX5_register 46 = .ok (.getfield 16, 3) := by decide +kernel
theorem dX5_register_49 : decode cX5_register 49 = .ok (.iload_n 1, 1) := by decide +kernel
theorem dX5_register_50 : decode cX5_register 50 = .ok (.iaload, 1) := by decide +kernel
theorem dX5_register_51 : decode cX5_register 51 = .ok (.if_icmp .ge 141, 3) := by decide +kernel
theorem dX5_register_54 : decode cX5_register 54 = .ok (.bipush 96, 2) := by decide +kernel
theorem dX5_register_56 : decode cX5_register 56 = .ok (.iload_n 1, 1) := by decide +kernel
theorem dX5_register_57 : decode cX5_register 57 = .ok (.imul, 1) := by decide +kernel
theorem dX5_register_58 : decode cX5_register 58 = .ok (.bipush 6, 2) := by decide +kernel
theorem dX5_register_60 : decode cX5_register 60 = .ok (.iload_n 3, 1) := by decide +kernel
theorem dX5_register_61 : decode cX5_register 61 = .ok (.imul, 1) := by decide +kernel
theorem dX5_register_62 : decode cX5_register 62 = .ok (.iadd, 1) := by decide +kernel
theorem dX5_register_63 : decode cX5_register 63 = .ok (.istore 4, 2) := by decide +kernel
theorem dX5_register_65 : decode cX5_register 65 = .ok (.aload_n 0, 1) := by decide +kernel
theorem dX5_register_66 : decode cX5_register 66 = .ok (.getfield 7, 3) := by decide +kernel
theorem dX5_register_69 : decode cX5_register 69 = .ok (.iload 4, 2) := by decide +kernel
theorem dX5_register_71 : decode cX5_register 71 = .ok (.iconst 3, 1) := by decide +kernel
theorem dX5_register_72 : decode cX5_register 72 = .ok (.iadd, 1) := by decide +kernel
theorem dX5_register_73 : decode cX5_register 73 = .ok (.iaload, 1) := by decide +kernel
theorem dX5_register_74 : decode cX5_register 74 = .ok (.istore 5, 2) := by decide +kernel
theorem dX5_register_76 : decode cX5_register 76 = .ok (.aload_n 0, 1) := by decide +kernel
theorem dX5_register_77 : decode cX5_register 77 = .ok (.getfield 7, 3) := by decide +kernel
theorem dX5_register_80 : decode cX5_register 80 = .ok (.iload 4, 2) := by decide +kernel
theorem dX5_register_82 : decode cX5_register 82 = .ok (.iconst 4, 1) := by decide +kernel
theorem dX5_register_83 : decode cX5_register 83 = .ok (.iadd, 1) := by decide +kernel
theorem dX5_register_84 : decode cX5_register 84 = .ok (.iaload, 1) := by decide +kernel
theorem dX5_register_85 : decode cX5_register 85 = .ok (.istore 6, 2) := by decide +kernel
theorem dX5_register_87 : decode cX5_register 87 = .ok (.aload_n 0, 1) := by decide +kernel
theorem dX5_register_88 : decode cX5_register 88 = .ok (.getfield 7, 3) := by decide +kernel
theorem dX5_register_91 : decode cX5_register 91 = .ok (.iload 4, 2) := by decide +kernel
theorem dX5_register_93 : decode cX5_register 93 = .ok (.iconst 5, 1) := by decide +kernel
theorem dX5_register_94 : decode cX5_register 94 = .ok (.iadd, 1) := by decide +kernel
theorem dX5_register_95 : decode cX5_register 95 = .ok (.iaload, 1) := by decide +kernel
theorem dX5_register_96 : decode cX5_register 96 = .ok (.istore 7, 2) := by decide +kernel
theorem dX5_register_98 : decode cX5_register 98 = .ok (.aload_n 0, 1) := by decide +kernel
theorem dX5_register_99 : decode cX5_register 99 = .ok (.getfield 7, 3) := by decide +kernel
theorem dX5_register_102 : decode cX5_register 102 = .ok (.iload 4, 2) := by decide +kernel
theorem dX5_register_104 : decode cX5_register 104 = .ok (.iconst 2, 1) := by decide +kernel
theorem dX5_register_105 : decode cX5_register 105 = .ok (.iadd, 1) := by decide +kernel
theorem dX5_register_106 : decode cX5_register 106 = .ok (.iaload, 1) := by decide +kernel
theorem dX5_register_107 : decode cX5_register 107 = .ok (.ifCond .ne 15, 3) := by decide +kernel
theorem dX5_register_110 : decode cX5_register 110 = .ok (.aload_n 0, 1) := by decide +kernel
theorem dX5_register_111 : decode cX5_register 111 = .ok (.getfield 74, 3) := by decide +kernel
theorem dX5_register_114 : decode cX5_register 114 = .ok (.iload 5, 2) := by decide +kernel
theorem dX5_register_116 : decode cX5_register 116 = .ok (.iload 7, 2) := by decide +kernel
theorem dX5_register_118 : decode cX5_register 118 = .ok (.iastore, 1) := by decide +kernel
theorem dX5_register_119 : decode cX5_register 119 = .ok (.goto 67, 3) := by decide +kernel
theorem dX5_register_122 : decode cX5_register 122 = .ok (.aload_n 0, 1) := by decide +kernel
theorem dX5_register_123 : decode cX5_register 123 = .ok (.getfield 7, 3) := by decide +kernel
theorem dX5_register_126 : decode cX5_register 126 = .ok (.iload 4, 2) := by decide +kernel
theorem dX5_register_128 : decode cX5_register 128 = .ok (.iconst 2, 1) := by decide +kernel
theorem dX5_register_129 : decode cX5_register 129 = .ok (.iadd, 1) := by decide +kernel
theorem dX5_register_130 : decode cX5_register 130 = .ok (.iaload, 1) := by decide +kernel
theorem dX5_register_131 : decode cX5_register 131 = .ok (.iconst 1, 1) := by decide +kernel
theorem dX5_register_132 : decode cX5_register 132 = .ok (.if_icmp .ne 18, 3) := by decide +kernel
theorem dX5_register_135 : decode cX5_register 135 = .ok (.aload_n 0, 1) := by decide +kernel
theorem dX5_register_136 : decode cX5_register 136 = .ok (.getfield 74, 3) := by decide +kernel
theorem dX5_register_139 : decode cX5_register 139 = .ok (.iload 5, 2) := by decide +kernel
theorem dX5_register_141 : decode cX5_register 141 = .ok (.dup2, 1) := by decide +kernel
theorem dX5_register_142 : decode cX5_register 142 = .ok (.iaload, 1) := by decide +kernel
theorem dX5_register_143 : decode cX5_register 143 = .ok (.iload 7, 2) := by decide +kernel
theorem dX5_register_145 : decode cX5_register 145 = .ok (.iadd, 1) := by decide +kernel
theorem dX5_register_146 : decode cX5_register 146 = .ok (.iastore, 1) := by decide +kernel
theorem dX5_register_147 : decode cX5_register 147 = .ok (.goto 39, 3) := by decide +kernel
theorem dX5_register_150 : decode cX5_register 150 = .ok (.aload_n 0, 1) := by decide +kernel
theorem dX5_register_151 : decode cX5_register 151 = .ok (.getfield 74, 3) := by decide +kernel
theorem dX5_register_154 : decode cX5_register 154 = .ok (.iload 5, 2) := by decide +kernel
theorem dX5_register_156 : decode cX5_register 156 = .ok (.iaload, 1) := by decide +kernel
theorem dX5_register_157 : decode cX5_register 157 = .ok (.iload 7, 2) := by decide +kernel
theorem dX5_register_159 : decode cX5_register 159 = .ok (.if_icmp .lt 27, 3) := by decide +kernel
theorem dX5_register_162 : decode cX5_register 162 = .ok (.aload_n 0, 1) := by decide +kernel
theorem dX5_register_163 : decode cX5_register 163 = .ok (.getfield 74, 3) := by decide +kernel
theorem dX5_register_166 : decode cX5_register 166 = .ok (.iload 5, 2) := by decide +kernel
theorem dX5_register_168 : decode cX5_register 168 = .ok (.dup2, 1) := by decide +kernel
theorem dX5_register_169 : decode cX5_register 169 = .ok (.iaload, 1) := by decide +kernel
theorem dX5_register_170 : decode cX5_register 170 = .ok (.iload 7, 2) := by decide +kernel
theorem dX5_register_172 : decode cX5_register 172 = .ok (.isub, 1) := by decide +kernel
theorem dX5_register_173 : decode cX5_register 173 = .ok (.iastore, 1) := by decide +kernel
theorem dX5_register_174 : decode cX5_register 174 = .ok (.aload_n 0, 1) := by decide +kernel
theorem dX5_register_175 : decode cX5_register 175 = .ok (.getfield 74, 3) := by decide +kernel
theorem dX5_register_178 : decode cX5_register 178 = .ok (.iload 6, 2) := by decide +kernel
theorem dX5_register_180 : decode cX5_register 180 = .ok (.dup2, 1) := by decide +kernel
theorem dX5_register_181 : decode cX5_register 181 = .ok (.iaload, 1) := by decide +kernel
theorem dX5_register_182 : decode cX5_register 182 = .ok (.iload 7, 2) := by decide +kernel
theorem dX5_register_184 : decode cX5_register 184 = .ok (.iadd, 1) := by decide +kernel
theorem dX5_register_185 : decode cX5_register 185 = .ok (.iastore, 1) := by decide +kernel
theorem dX5_register_186 : decode cX5_register 186 = .ok (.iinc 3 1, 3) := by decide +kernel
theorem dX5_register_189 : decode cX5_register 189 = .ok (.goto (-145), 3) := by decide +kernel
theorem dX5_register_192 : decode cX5_register 192 = .ok (.aload_n 0, 1) := by decide +kernel
theorem dX5_register_193 : decode cX5_register 193 = .ok (.getfield 74, 3) := by decide +kernel
theorem dX5_register_196 : decode cX5_register 196 = .ok (.iload_n 2, 1) := by decide +kernel
theorem dX5_register_197 : decode cX5_register 197 = .ok (.iaload, 1) := by decide +kernel
theorem dX5_register_198 : decode cX5_register 198 = .ok (.ireturn, 1) := by decide +kernel
set_option maxRecDepth 20000 in
theorem ggX5_known_X5_isNode : GoodIn wsX5_known wsX5_isNode := goodIn_r _ [7, 8, 9, 10, 6, 11, 17, 18, 19, 20, 21, 22, 23, 24, 25, 26, 27, 28, 29, 30, 31, 32, 33, 34, 35, 36, 37, 38, 39, 40, 41, 42] (by decide +kernel) (by decide +kernel)
set_option maxRecDepth 20000 in
theorem gX5_known_X5_isNode : GoodIn wsX5_known (wsV RX5 145 RX5 yX5_isNode wsX5_isNode) := goodIn_app (goodIn_of _ (by decide +kernel)) ggX5_known_X5_isNode
set_option maxRecDepth 20000 in
theorem ggX5_known_X5_isFirst : GoodIn wsX5_known wsX5_isFirst := goodIn_r _ [15, 16, 8, 17, 18, 19, 20, 21, 22, 23, 24, 25, 26, 27, 28, 29, 30, 31, 32, 33, 34, 35, 36, 37, 38, 39, 40, 41, 42] (by decide +kernel) (by decide +kernel)
set_option maxRecDepth 20000 in
theorem gX5_known_X5_isFirst : GoodIn wsX5_known (wsV RX5 121 RX5 yX5_isFirst wsX5_isFirst) := goodIn_app (goodIn_of _ (by decide +kernel)) ggX5_known_X5_isFirst
theorem dX5_known_0 : decode cX5_known 0 = .ok (.aload_n 0, 1) := by decide +kernel
theorem dX5_known_1 : decode cX5_known 1 = .ok (.iload_n 1, 1) := by decide +kernel
theorem dX5_known_2 : decode cX5_known 2 = .ok (.invokevirtual 145, 3) := by decide +kernel
theorem dX5_known_5 : decode cX5_known 5 = .ok (.ifCond .eq 16, 3) := by decide +kernel
theorem dX5_known_8 : decode cX5_known 8 = .ok (.aload_n 0, 1) := by decide +kernel
theorem dX5_known_9 : decode cX5_known 9 = .ok (.iload_n 2, 1) := by decide +kernel
theorem dX5_known_10 : decode cX5_known 10 = .ok (.invokevirtual 145, 3) := by decide +kernel
theorem dX5_known_13 : decode cX5_known 13 = .ok (.ifCond .eq 8, 3) := by decide +kernel
theorem dX5_known_16 : decode cX5_known 16 = .ok (.iload_n 1, 1) := by decide +kernel
theorem dX5_known_17 : decode cX5_known 17 = .ok (.iload_n 2, 1) := by decide +kernel
theorem dX5_known_18 : decode cX5_known 18 = .ok (.if_icmp .ne 6, 3) := by decide +kernel
theorem dX5_known_21 : decode cX5_known 21 = .ok (.bipush (-2), 2) := by decide +kernel
theorem dX5_known_23 : decode cX5_known 23 = .ok (.ireturn, 1) := by decide +kernel
theorem dX5_known_24 : decode cX5_known 24 = .ok (.aload_n 0, 1) := by decide +kernel
theorem dX5_known_25 : decode cX5_known 25 = .ok (.getfield 19, 3) := by decide +kernel
theorem dX5_known_28 : decode cX5_known 28 = .ok (.iload_n 1, 1) := by decide +kernel
theorem dX5_known_29 : decode cX5_known 29 = .ok (.iaload, 1) := by decide +kernel
theorem dX5_known_30 : decode cX5_known 30 = .ok (.ifCond .ne 24, 3) := by decide +kernel
theorem dX5_known_33 : decode cX5_known 33 = .ok (.aload_n 0, 1) := by decide +kernel
theorem dX5_known_34 : decode cX5_known 34 = .ok (.iload_n 1, 1) := by decide +kernel
theorem dX5_known_35 : decode cX5_known 35 = .ok (.invokevirtual 121, 3) := by decide +kernel
theorem dX5_known_38 : decode cX5_known 38 = .ok (.ifCond .eq 16, 3) := by decide +kernel
theorem dX5_known_41 : decode cX5_known 41 = .ok (.aload_n 0, 1) := by decide +kernel
theorem dX5_known_42 : decode cX5_known 42 = .ok (.getfield 35, 3) := by decide +kernel
theorem dX5_known_45 : decode cX5_known 45 = .ok (.iconst 5, 1) := by decide +kernel
theorem dX5_known_46 : decode cX5_known 46 = .ok (.iload_n 1, 1) := by decide +kernel
theorem dX5_known_47 : decode cX5_known 47 = .ok (.imul, 1) := by decide +kernel
theorem dX5_known_48 : decode cX5_known 48 = .ok (.iload_n 2, 1) := by decide +kernel
theorem dX5_known_49 : decode cX5_known 49 = .ok (.iadd, 1) := by decide +kernel
theorem dX5_known_50 : decode cX5_known 50 = .ok (.iaload, 1) := by decide +kernel
theorem dX5_known_51 : decode cX5_known 51 = .ok (.goto 5, 3) := by decide +kernel
theorem dX5_known_54 : decode cX5_known 54 = .ok (.bipush (-3), 2) := by decide +kernel
theorem dX5_known_56 : decode cX5_known 56 = .ok (.ireturn, 1) := by decide +kernel
set_option maxRecDepth 20000 in
theorem ggX5_letter_X5_in : GoodIn wsX5_letter wsX5_in := goodIn_r _ [13] (by decide +kernel) (by decide +kernel)
set_option maxRecDepth 20000 in
theorem gX5_letter_X5_in : GoodIn wsX5_letter (va_wsS RX5 84 yX5_in wsX5_in) := goodIn_app (goodIn_of _ (by decide +kernel)) ggX5_letter_X5_in
set_option maxRecDepth 20000 in
theorem ggX5_letter_X5_hasLog : GoodIn wsX5_letter wsX5_hasLog := goodIn_r _ [16] (by decide +kernel) (by decide +kernel)
set_option maxRecDepth 20000 in
theorem gX5_letter_X5_hasLog : GoodIn wsX5_letter (va_wsS RX5 94 yX5_hasLog wsX5_hasLog) := goodIn_app (goodIn_of _ (by decide +kernel)) ggX5_letter_X5_hasLog
theorem dX5_letter_0 : decode cX5_letter 0 = .ok (.iload_n 1, 1) := by decide +kernel
theorem dX5_letter_1 : decode cX5_letter 1 = .ok (.iconst 0, 1) := by decide +kernel
theorem dX5_letter_2 : decode cX5_letter 2 = .ok (.aload_n 0, 1) := by decide +kernel
theorem dX5_letter_3 : decode cX5_letter 3 = .ok (.getfield 88, 3) := by decide +kernel
theorem dX5_letter_6 : decode cX5_letter 6 = .ok (.iconst 1, 1) := by decide +kernel
theorem dX5_letter_7 : decode cX5_letter 7 = .ok (.isub, 1) := by decide +kernel
theorem dX5_letter_8 : decode cX5_letter 8 = .ok (.invokestatic 84, 3) := by decide +kernel
theorem dX5_letter_11 : decode cX5_letter 11 = .ok (.ifCond .ne 6, 3) := by decide +kernel
theorem dX5_letter_14 : decode cX5_letter 14 = .ok (.bipush (-2), 2) := by decide +kernel
theorem dX5_letter_16 : decode cX5_letter 16 = .ok (.ireturn, 1) := by decide +kernel
theorem dX5_letter_17 : decode cX5_letter 17 = .ok (.aload_n 0, 1) := by decide +kernel
theorem dX5_letter_18 : decode cX5_letter 18 = .ok (.getfield 62, 3) := by decide +kernel
theorem dX5_letter_21 : decode cX5_letter 21 = .ok (.iload_n 1, 1) := by decide +kernel
theorem dX5_letter_22 : decode cX5_letter 22 = .ok (.iaload, 1) := by decide +kernel
theorem dX5_letter_23 : decode cX5_letter 23 = .ok (.invokestatic 94, 3) := by decide +kernel
theorem dX5_letter_26 : decode cX5_letter 26 = .ok (.istore_n 3, 1) := by decide +kernel
theorem dX5_letter_27 : decode cX5_letter 27 = .ok (.iload_n 2, 1) := by decide +kernel
theorem dX5_letter_28 : decode cX5_letter 28 = .ok (.tableswitch 134 0 7 #[48, 55, 62, 69, 76, 94, 112, 119], 48) := by decide +kernel
theorem dX5_letter_76 : decode cX5_letter 76 = .ok (.aload_n 0, 1) := by decide +kernel
theorem dX5_letter_77 : decode cX5_letter 77 = .ok (.getfield 56, 3) := by decide +kernel
theorem dX5_letter_80 : decode cX5_letter 80 = .ok (.iload_n 1, 1) := by decide +kernel
theorem dX5_letter_81 : decode cX5_letter 81 = .ok (.iaload, 1) := by decide +kernel
theorem dX5_letter_82 : decode cX5_letter 82 = .ok (.ireturn, 1) := by decide +kernel
theorem dX5_letter_83 : decode cX5_letter 83 = .ok (.aload_n 0, 1) := by decide +kernel
theorem dX5_letter_84 : decode cX5_letter 84 = .ok (.getfield 59, 3) := by decide +kernel
theorem dX5_letter_87 : decode cX5_letter 87 = .ok (.iload_n 1, 1) := by decide +kernel
theorem dX5_letter_88 : decode cX5_letter 88 = .ok (.iaload, 1) := by decide +kernel
theorem dX5_letter_89 : decode cX5_letter 89 = .ok (.ireturn, 1) := by decide +kernel
theorem dX5_letter_90 : decode cX5_letter 90 = .ok (.aload_n 0, 1) := by decide +kernel
theorem dX5_letter_91 : decode cX5_letter 91 = .ok (.getfield 62, 3) := by decide +kernel
theorem dX5_letter_94 : decode cX5_letter 94 = .ok (.iload_n 1, 1) := by decide +kernel
theorem dX5_letter_95 : decode cX5_letter 95 = .ok (.iaload, 1) := by decide +kernel
theorem dX5_letter_96 : decode cX5_letter 96 = .ok (.ireturn, 1) := by decide +kernel
theorem dX5_letter_97 : decode cX5_letter 97 = .ok (.aload_n 0, 1) := by decide +kernel
theorem dX5_letter_98 : decode cX5_letter 98 = .ok (.getfield 65, 3) := by decide +kernel
theorem dX5_letter_101 : decode cX5_letter 101 = .ok (.iload_n 1, 1) := by decide +kernel
theorem dX5_letter_102 : decode cX5_letter 102 = .ok (.iaload, 1) := by decide +kernel
theorem dX5_letter_103 : decode cX5_letter 103 = .ok (.ireturn, 1) := by decide +kernel
theorem dX5_letter_104 : decode cX5_letter 104 = .ok (.iload_n 3, 1) := by decide +kernel
theorem dX5_letter_105 : decode cX5_letter 105 = .ok (.ifCond .eq 15, 3) := by decide +kernel
theorem dX5_letter_108 : decode cX5_letter 108 = .ok (.aload_n 0, 1) := by decide +kernel
theorem dX5_letter_109 : decode cX5_letter 109 = .ok (.getfield 13, 3) := by decide +kernel
theorem dX5_letter_112 : decode cX5_letter 112 = .ok (.bipush 55, 2) := by decide +kernel
theorem dX5_letter_114 : decode cX5_letter 114 = .ok (.iload_n 1, 1) := by decide +kernel
theorem dX5_letter_115 : decode cX5_letter 115 = .ok (.iadd, 1) := by decide +kernel
theorem dX5_letter_116 : decode cX5_letter 116 = .ok (.iaload, 1) := by decide +kernel
theorem dX5_letter_117 : decode cX5_letter 117 = .ok (.goto 4, 3) := by decide +kernel
theorem dX5_letter_120 : decode cX5_letter 120 = .ok (.iconst 0, 1) := by decide +kernel
theorem dX5_letter_121 : decode cX5_letter 121 = .ok (.ireturn, 1) := by decide +kernel
theorem dX5_letter_122 : decode cX5_letter 122 = .ok (.iload_n 3, 1) := by decide +kernel
theorem dX5_letter_123 : decode cX5_letter 123 = .ok (.ifCond .eq 15, 3) := by decide +kernel
theorem dX5_letter_126 : decode cX5_letter 126 = .ok (.aload_n 0, 1) := by decide +kernel
theorem dX5_letter_127 : decode cX5_letter 127 = .ok (.getfield 16, 3) := by decide +kernel
theorem dX5_letter_130 : decode cX5_letter 130 = .ok (.bipush 55, 2) := by decide +kernel
theorem dX5_letter_132 : decode cX5_letter 132 = .ok (.iload_n 1, 1) := by decide +kernel
theorem dX5_letter_133 : decode cX5_letter 133 = .ok (.iadd, 1) := by decide +kernel
theorem dX5_letter_134 : decode cX5_letter 134 = .ok (.iaload, 1) := by decide +kernel
theorem dX5_letter_135 : decode cX5_letter 135 = .ok (.goto 4, 3) := by decide +kernel
theorem dX5_letter_138 : decode cX5_letter 138 = .ok (.iconst 0, 1) := by decide +kernel
theorem dX5_letter_139 : decode cX5_letter 139 = .ok (.ireturn, 1) := by decide +kernel
theorem dX5_letter_140 : decode cX5_letter 140 = .ok (.aload_n 0, 1) := by decide +kernel
theorem dX5_letter_141 : decode cX5_letter 141 = .ok (.getfield 68, 3) := by decide +kernel
theorem dX5_letter_144 : decode cX5_letter 144 = .ok (.iload_n 1, 1) := by decide +kernel
theorem dX5_letter_145 : decode cX5_letter 145 = .ok (.iaload, 1) := by decide +kernel
theorem dX5_letter_146 : decode cX5_letter 146 = .ok (.ireturn, 1) := by decide +kernel
theorem dX5_letter_147 : decode cX5_letter 147 = .ok (.aload_n 0, 1) := by decide +kernel
theorem dX5_letter_148 : decode cX5_letter 148 = .ok (.getfield 71, 3) := by decide +kernel
theorem dX5_letter_151 : decode cX5_letter 151 = .ok (.iload_n 1, 1) := by decide +kernel
theorem dX5_letter_152 : decode cX5_letter 152 = .ok (.baload, 1) := by decide +kernel
theorem dX5_letter_153 : decode cX5_letter 153 = .ok (.ifCond .eq 7, 3) := by decide +kernel
theorem dX5_letter_156 : decode cX5_letter 156 = .ok (.iconst 1, 1) := by decide +kernel
theorem dX5_letter_157 : decode cX5_letter 157 = .ok (.goto 4, 3) := by decide +kernel
theorem dX5_letter_160 : decode cX5_letter 160 = .ok (.iconst 0, 1) := by decide +kernel
theorem dX5_letter_161 : decode cX5_letter 161 = .ok (.ireturn, 1) := by decide +kernel
theorem dX5_letter_162 : decode cX5_letter 162 = .ok (.bipush (-2), 2) := by decide +kernel
theorem dX5_letter_164 : decode cX5_letter 164 = .ok (.ireturn, 1) := by decide +kernel
theorem dX5_count_0 : decode cX5_count 0 = .ok (.iconst 0, 1) := by decide +kernel
theorem dX5_count_1 : decode cX5_count 1 = .ok (.istore_n 2, 1) := by decide +kernel
theorem dX5_count_2 : decode cX5_count 2 = .ok (.iload_n 1, 1) := by decide +kernel
theorem dX5_count_3 : decode cX5_count 3 = .ok (.tableswitch 173 0 4 #[33, 38, 73, 78, 138], 33) := by decide +kernel
theorem dX5_count_36 : decode cX5_count 36 = .ok (.aload_n 0, 1) := by decide +kernel
theorem dX5_count_37 : decode cX5_count 37 = .ok (.getfield 88, 3) := by decide +kernel
theorem dX5_count_40 : decode cX5_count 40 = .ok (.ireturn, 1) := by decide +kernel
theorem dX5_count_41 : decode cX5_count 41 = .ok (.iconst 0, 1) := by decide +kernel
theorem dX5_count_42 : decode cX5_count 42 = .ok (.istore_n 3, 1) := by decide +kernel
theorem dX5_count_43 : decode cX5_count 43 = .ok (.iload_n 3, 1) := by decide +kernel
theorem dX5_count_44 : decode cX5_count 44 = .ok (.aload_n 0, 1) := by decide +kernel
theorem dX5_count_45 : decode cX5_count 45 = .ok (.getfield 88, 3) := by decide +kernel
theorem dX5_count_48 : decode cX5_count 48 = .ok (.if_icmp .ge 26, 3) := by decide +kernel
theorem dX5_count_51 : decode cX5_count 51 = .ok (.iload_n 2, 1) := by decide +kernel
theorem dX5_count_52 : decode cX5_count 52 = .ok (.aload_n 0, 1) := by decide +kernel
theorem dX5_count_53 : decode cX5_count 53 = .ok (.getfield 71, 3) := by decide +kernel
theorem dX5_count_56 : decode cX5_count 56 = .ok (.iload_n 3, 1) := by decide +kernel
theorem dX5_count_57 : decode cX5_count 57 = .ok (.baload, 1) := by decide +kernel
theorem dX5_count_58 : decode cX5_count 58 = .ok (.ifCond .eq 7, 3) := by decide +kernel
theorem dX5_count_61 : decode cX5_count 61 = .ok (.iconst 1, 1) := by decide +kernel
theorem dX5_count_62 : decode cX5_count 62 = .ok (.goto 4, 3) := by decide +kernel
theorem dX5_count_65 : decode cX5_count 65 = .ok (.iconst 0, 1) := by decide +kernel
theorem dX5_count_66 : decode cX5_count 66 = .ok (.iadd, 1) := by decide +kernel
theorem dX5_count_67 : decode cX5_count 67 = .ok (.istore_n 2, 1) := by decide +kernel
theorem dX5_count_68 : decode cX5_count 68 = .ok (.iinc 3 1, 3) := by decide +kernel
theorem dX5_count_71 : decode cX5_count 71 = .ok (.goto (-28), 3) := by decide +kernel
theorem dX5_count_74 : decode cX5_count 74 = .ok (.iload_n 2, 1) := by decide +kernel
theorem dX5_count_75 : decode cX5_count 75 = .ok (.ireturn, 1) := by decide +kernel
theorem dX5_count_76 : decode cX5_count 76 = .ok (.aload_n 0, 1) := by decide +kernel
theorem dX5_count_77 : decode cX5_count 77 = .ok (.getfield 91, 3) := by decide +kernel
theorem dX5_count_80 : decode cX5_count 80 = .ok (.ireturn, 1) := by decide +kernel
theorem dX5_count_81 : decode cX5_count 81 = .ok (.iconst 0, 1) := by decide +kernel
theorem dX5_count_82 : decode cX5_count 82 = .ok (.istore_n 3, 1) := by decide +kernel
theorem dX5_count_83 : decode cX5_count 83 = .ok (.iload_n 3, 1) := by decide +kernel
theorem dX5_count_84 : decode cX5_count 84 = .ok (.aload_n 0, 1) := by decide +kernel
theorem dX5_count_85 : decode cX5_count 85 = .ok (.getfield 77, 3) := by decide +kernel
theorem dX5_count_88 : decode cX5_count 88 = .ok (.if_icmp .ge 51, 3) := by decide +kernel
theorem dX5_count_91 : decode cX5_count 91 = .ok (.iload_n 3, 1) := by decide +kernel
theorem dX5_count_92 : decode cX5_count 92 = .ok (.iconst 1, 1) := by decide +kernel
theorem dX5_count_93 : decode cX5_count 93 = .ok (.iadd, 1) := by decide +kernel
theorem dX5_count_94 : decode cX5_count 94 = .ok (.istore 4, 2) := by decide +kernel
theorem dX5_count_96 : decode cX5_count 96 = .ok (.iload 4, 2) := by decide +kernel
theorem dX5_count_98 : decode cX5_count 98 = .ok (.aload_n 0, 1) := by decide +kernel
theorem dX5_count_99 : decode cX5_count 99 = .ok (.getfield 77, 3) := by decide +kernel
theorem dX5_count_102 : decode cX5_count 102 = .ok (.if_icmp .ge 31, 3) := by decide +kernel
theorem dX5_count_105 : decode cX5_count 105 = .ok (.iload_n 2, 1) := by decide +kernel
theorem dX5_count_106 : decode cX5_count 106 = .ok (.aload_n 0, 1) := by decide +kernel
theorem dX5_count_107 : decode cX5_count 107 = .ok (.getfield 53, 3) := by decide +kernel
theorem dX5_count_110 : decode cX5_count 110 = .ok (.iconst 5, 1) := by decide +kernel
theorem dX5_count_111 : decode cX5_count 111 = .ok (.iload_n 3, 1) := by decide +kernel
theorem dX5_count_112 : decode cX5_count 112 = .ok (.imul, 1) := by decide +kernel
theorem dX5_count_113 : decode cX5_count 113 = .ok (.iload 4, 2) := by decide +kernel
theorem dX5_count_115 : decode cX5_count 115 = .ok (.iadd, 1) := by decide +kernel
theorem dX5_count_116 : decode cX5_count 116 = .ok (.baload, 1) := by decide +kernel
theorem dX5_count_117 : decode cX5_count 117 = .ok (.ifCond .eq 7, 3) := by decide +kernel
theorem dX5_count_120 : decode cX5_count 120 = .ok (.iconst 1, 1) := by decide +kernel
theorem dX5_count_121 : decode cX5_count 121 = .ok (.goto 4, 3) := by decide +kernel
theorem dX5_count_124 : decode cX5_count 124 = .ok (.iconst 0, 1) := by decide +kernel
theorem dX5_count_125 : decode cX5_count 125 = .ok (.iadd, 1) := by decide +kernel
theorem dX5_count_126 : decode cX5_count 126 = .ok (.istore_n 2, 1) := by decide +kernel
theorem dX5_count_127 : decode cX5_count 127 = .ok (.iinc 4 1, 3) := by decide +kernel
theorem dX5_count_130 : decode cX5_count 130 = .ok (.goto (-34), 3) := by decide +kernel
theorem dX5_count_133 : decode cX5_count 133 = .ok (.iinc 3 1, 3) := by decide +kernel
theorem dX5_count_136 : decode cX5_count 136 = .ok (.goto (-53), 3) := by decide +kernel
theorem dX5_count_139 : decode cX5_count 139 = .ok (.iload_n 2, 1) := by decide +kernel
theorem dX5_count_140 : decode cX5_count 140 = .ok (.ireturn, 1) := by decide +kernel
theorem dX5_count_141 : decode cX5_count 141 = .ok (.iconst 0, 1) := by decide +kernel
theorem dX5_count_142 : decode cX5_count 142 = .ok (.istore_n 3, 1) := by decide +kernel
theorem dX5_count_143 : decode cX5_count 143 = .ok (.iload_n 3, 1) := by decide +kernel
theorem dX5_count_144 : decode cX5_count 144 = .ok (.aload_n 0, 1) := by decide +kernel
theorem dX5_count_145 : decode cX5_count 145 = .ok (.getfield 77, 3) := by decide +kernel
theorem dX5_count_148 : decode cX5_count 148 = .ok (.if_icmp .ge 26, 3) := by decide +kernel
theorem dX5_count_151 : decode cX5_count 151 = .ok (.iload_n 2, 1) := by decide +kernel
theorem dX5_count_152 : decode cX5_count 152 = .ok (.aload_n 0, 1) := by decide +kernel
theorem dX5_count_153 : decode cX5_count 153 = .ok (.getfield 19, 3) := by decide +kernel
theorem dX5_count_156 : decode cX5_count 156 = .ok (.iload_n 3, 1) := by decide +kernel
theorem dX5_count_157 : decode cX5_count 157 = .ok (.iaload, 1) := by decide +kernel
theorem dX5_count_158 : decode cX5_count 158 = .ok (.ifCond .ne 7, 3) := by decide +kernel
theorem dX5_count_161 : decode cX5_count 161 = .ok (.iconst 1, 1) := by decide +kernel
theorem dX5_count_162 : decode cX5_count 162 = .ok (.goto 4, 3) := by decide +kernel
theorem dX5_count_165 : decode cX5_count 165 = .ok (.iconst 0, 1) := by decide +kernel
theorem dX5_count_166 : decode cX5_count 166 = .ok (.iadd, 1) := by decide +kernel
theorem dX5_count_167 : decode cX5_count 167 = .ok (.istore_n 2, 1) := by decide +kernel
theorem dX5_count_168 : decode cX5_count 168 = .ok (.iinc 3 1, 3) := by decide +kernel
theorem dX5_count_171 : decode cX5_count 171 = .ok (.goto (-28), 3) := by decide +kernel
theorem dX5_count_174 : decode cX5_count 174 = .ok (.iload_n 2, 1) := by decide +kernel
theorem dX5_count_175 : decode cX5_count 175 = .ok (.ireturn, 1) := by decide +kernel
theorem dX5_count_176 : decode cX5_count 176 = .ok (.bipush (-2), 2) := by decide +kernel
theorem dX5_count_178 : decode cX5_count 178 = .ok (.ireturn, 1) := by decide +kernel
set_option maxRecDepth 20000 in
theorem ggX5_unlike_X5_lesser : GoodIn wsX5_unlike wsX5_lesser := goodIn_r _ [7] (by decide +kernel) (by decide +kernel)
set_option maxRecDepth 20000 in
theorem gX5_unlike_X5_lesser : GoodIn wsX5_unlike (va_wsS RX5 110 yX5_lesser wsX5_lesser) := goodIn_app (goodIn_of _ (by decide +kernel)) ggX5_unlike_X5_lesser
theorem dX5_unlike_0 : decode cX5_unlike 0 = .ok (.iconst 0, 1) := by decide +kernel
theorem dX5_unlike_1 : decode cX5_unlike 1 = .ok (.istore_n 1, 1) := by decide +kernel
theorem dX5_unlike_2 : decode cX5_unlike 2 = .ok (.iload_n 1, 1) := by decide +kernel
theorem dX5_unlike_3 : decode cX5_unlike 3 = .ok (.aload_n 0, 1) := by decide +kernel
theorem dX5_unlike_4 : decode cX5_unlike 4 = .ok (.getfield 77, 3) := by decide +kernel
theorem dX5_unlike_7 : decode cX5_unlike 7 = .ok (.if_icmp .ge 95, 3) := by decide +kernel
theorem dX5_unlike_10 : decode cX5_unlike 10 = .ok (.iload_n 1, 1) := by decide +kernel
theorem dX5_unlike_11 : decode cX5_unlike 11 = .ok (.iconst 1, 1) := by decide +kernel
theorem dX5_unlike_12 : decode cX5_unlike 12 = .ok (.iadd, 1) := by decide +kernel
theorem dX5_unlike_13 : decode cX5_unlike 13 = .ok (.istore_n 2, 1) := by decide +kernel
theorem dX5_unlike_14 : decode cX5_unlike 14 = .ok (.iload_n 2, 1) := by decide +kernel
theorem dX5_unlike_15 : decode cX5_unlike 15 = .ok (.aload_n 0, 1) := by decide +kernel
theorem dX5_unlike_16 : decode cX5_unlike 16 = .ok (.getfield 77, 3) := by decide +kernel
theorem dX5_unlike_19 : decode cX5_unlike 19 = .ok (.if_icmp .ge 77, 3) := by decide +kernel
theorem dX5_unlike_22 : decode cX5_unlike 22 = .ok (.aload_n 0, 1) := by decide +kernel
theorem dX5_unlike_23 : decode cX5_unlike 23 = .ok (.getfield 16, 3) := by decide +kernel
theorem dX5_unlike_26 : decode cX5_unlike 26 = .ok (.iload_n 1, 1) := by decide +kernel
theorem dX5_unlike_27 : decode cX5_unlike 27 = .ok (.iaload, 1) := by decide +kernel
theorem dX5_unlike_28 : decode cX5_unlike 28 = .ok (.aload_n 0, 1) := by decide +kernel
theorem dX5_unlike_29 : decode cX5_unlike 29 = .ok (.getfield 16, 3) := by decide +kernel
theorem dX5_unlike_32 : decode cX5_unlike 32 = .ok (.iload_n 2, 1) := by decide +kernel
theorem dX5_unlike_33 : decode cX5_unlike 33 = .ok (.iaload, 1) := by decide +kernel
theorem dX5_unlike_34 : decode cX5_unlike 34 = .ok (.invokestatic 110, 3) := by decide +kernel
theorem dX5_unlike_37 : decode cX5_unlike 37 = .ok (.istore_n 3, 1) := by decide +kernel
theorem dX5_unlike_38 : decode cX5_unlike 38 = .ok (.iconst 0, 1) := by decide +kernel
theorem dX5_unlike_39 : decode cX5_unlike 39 = .ok (.istore 4, 2) := by decide +kernel
theorem dX5_unlike_41 : decode cX5_unlike 41 = .ok (.iload 4, 2) := by decide +kernel
theorem dX5_unlike_43 : decode cX5_unlike 43 = .ok (.bipush 6, 2) := by decide +kernel
theorem dX5_unlike_45 : decode cX5_unlike 45 = .ok (.iload_n 3, 1) := by decide +kernel
theorem dX5_unlike_46 : decode cX5_unlike 46 = .ok (.imul, 1) := by decide +kernel
theorem dX5_unlike_47 : decode cX5_unlike 47 = .ok (.if_icmp .ge 43, 3) := by decide +kernel
theorem dX5_unlike_50 : decode cX5_unlike 50 = .ok (.aload_n 0, 1) := by decide +kernel
theorem dX5_unlike_51 : decode cX5_unlike 51 = .ok (.getfield 7, 3) := by decide +kernel
theorem dX5_unlike_54 : decode cX5_unlike 54 = .ok (.bipush 96, 2) := by decide +kernel
theorem dX5_unlike_56 : decode cX5_unlike 56 = .ok (.iload_n 1, 1) := by decide +kernel
theorem dX5_unlike_57 : decode cX5_unlike 57 = .ok (.imul, 1) := by decide +kernel
theorem dX5_unlike_58 : decode cX5_unlike 58 = .ok (.iload 4, 2) := by decide +kernel
theorem dX5_unlike_60 : decode cX5_unlike 60 = .ok (.iadd, 1) := by decide +kernel
theorem dX5_unlike_61 : decode cX5_unlike 61 = .ok (.iaload, 1) := by decide +kernel
theorem dX5_unlike_62 : decode cX5_unlike 62 = .ok (.aload_n 0, 1) := by decide +kernel
theorem dX5_unlike_63 : decode cX5_unlike 63 = .ok (.getfield 7, 3) := by decide +kernel
theorem dX5_unlike_66 : decode cX5_unlike 66 = .ok (.bipush 96, 2) := by decide +kernel
theorem dX5_unlike_68 : decode cX5_unlike 68 = .ok (.iload_n 2, 1) := by decide +kernel
theorem dX5_unlike_69 : decode cX5_unlike 69 = .ok (.imul, 1) := by decide +kernel
theorem dX5_unlike_70 : decode cX5_unlike 70 = .ok (.iload 4, 2) := by decide +kernel
theorem dX5_unlike_72 : decode cX5_unlike 72 = .ok (.iadd, 1) := by decide +kernel
theorem dX5_unlike_73 : decode cX5_unlike 73 = .ok (.iaload, 1) := by decide +kernel
theorem dX5_unlike_74 : decode cX5_unlike 74 = .ok (.if_icmp .eq 10, 3) := by decide +kernel
theorem dX5_unlike_77 : decode cX5_unlike 77 = .ok (.bipush 10, 2) := by decide +kernel
theorem dX5_unlike_79 : decode cX5_unlike 79 = .ok (.iload_n 1, 1) := by decide +kernel
theorem dX5_unlike_80 : decode cX5_unlike 80 = .ok (.imul, 1) := by decide +kernel
theorem dX5_unlike_81 : decode cX5_unlike 81 = .ok (.iload_n 2, 1) := by decide +kernel
theorem dX5_unlike_82 : decode cX5_unlike 82 = .ok (.iadd, 1) := by decide +kernel
theorem dX5_unlike_83 : decode cX5_unlike 83 = .ok (.ireturn, 1) := by decide +kernel
theorem dX5_unlike_84 : decode cX5_unlike 84 = .ok (.iinc 4 1, 3) := by decide +kernel
theorem dX5_unlike_87 : decode cX5_unlike 87 = .ok (.goto (-46), 3) := by decide +kernel
theorem dX5_unlike_90 : decode cX5_unlike 90 = .ok (.iinc 2 1, 3) := by decide +kernel
theorem dX5_unlike_93 : decode cX5_unlike 93 = .ok (.goto (-79), 3) := by decide +kernel
theorem dX5_unlike_96 : decode cX5_unlike 96 = .ok (.iinc 1 1, 3) := by decide +kernel
theorem dX5_unlike_99 : decode cX5_unlike 99 = .ok (.goto (-97), 3) := by decide +kernel
theorem dX5_unlike_102 : decode cX5_unlike 102 = .ok (.iconst (-1), 1) := by decide +kernel
theorem dX5_unlike_103 : decode cX5_unlike 103 = .ok (.ireturn, 1) := by decide +kernel
set_option maxRecDepth 20000 in
theorem ggX5_digest_X5_node : GoodIn wsX5_digest wsX5_node := goodIn_r _ [11, 12, 13, 14, 4, 15, 16, 17, 18, 19, 10, 20, 2, 21, 22, 23, 24, 25, 26, 27, 28, 29, 30, 31, 32, 33, 34, 35, 36, 37, 38, 58, 59, 60, 61, 62, 63, 64, 65, 66, 67, 68, 69, 70, 71, 72, 73, 74, 75, 76, 77, 78, 79, 80, 81, 82, 83] (by decide +kernel) (by decide +kernel)
set_option maxRecDepth 20000 in
theorem gX5_digest_X5_node : GoodIn wsX5_digest (wsV RX5 182 RX5 yX5_node wsX5_node) := goodIn_app (goodIn_of _ (by decide +kernel)) ggX5_digest_X5_node
set_option maxRecDepth 20000 in
theorem ggX5_digest_X5_register : GoodIn wsX5_digest wsX5_register := goodIn_r _ [42, 43, 44, 15, 5, 17, 18, 19, 10, 20, 2, 21, 22, 23, 58, 59, 60, 61, 62, 63, 64, 65, 66, 67, 68, 69, 70, 71, 72, 73, 74, 75, 76, 77, 78, 79, 80, 81, 82, 83] (by decide +kernel) (by decide +kernel)
set_option maxRecDepth 20000 in
theorem gX5_digest_X5_register : GoodIn wsX5_digest (wsV RX5 185 RX5 yX5_register wsX5_register) := goodIn_app (goodIn_of _ (by decide +kernel)) ggX5_digest_X5_register
set_option maxRecDepth 20000 in
theorem ggX5_digest_X5_letter : GoodIn wsX5_digest wsX5_letter := goodIn_r _ [48, 6, 49, 50, 51, 52, 4, 15, 53, 54, 21, 22, 10, 23, 55, 56, 57, 58, 59, 60, 61, 62, 63, 64, 65, 66, 67, 68, 69, 70, 71, 72, 73, 74, 75, 76, 77, 78, 79, 80, 81, 82, 83] (by decide +kernel) (by decide +kernel)
set_option maxRecDepth 20000 in
theorem gX5_digest_X5_letter : GoodIn wsX5_digest (wsV RX5 188 RX5 yX5_letter wsX5_letter) := goodIn_app (goodIn_of _ (by decide +kernel)) ggX5_digest_X5_letter
theorem dX5_digest_0 : decode cX5_digest 0 = .ok (.ldc2_w 178, 3) := by decide +kernel
theorem dX5_digest_3 : decode cX5_digest 3 = .ok (.lstore_n 1, 1) := by decide +kernel
theorem dX5_digest_4 : decode cX5_digest 4 = .ok (.iconst 0, 1) := by decide +kernel
theorem dX5_digest_5 : decode cX5_digest 5 = .ok (.istore_n 3, 1) := by decide +kernel
theorem dX5_digest_6 : decode cX5_digest 6 = .ok (.iload_n 3, 1) := by decide +kernel
theorem dX5_digest_7 : decode cX5_digest 7 = .ok (.aload_n 0, 1) := by decide +kernel
theorem dX5_digest_8 : decode cX5_digest 8 = .ok (.getfield 77, 3) := by decide +kernel
theorem dX5_digest_11 : decode cX5_digest 11 = .ok (.if_icmp .ge 114, 3) := by decide +kernel
theorem dX5_digest_14 : decode cX5_digest 14 = .ok (.iconst 0, 1) := by decide +kernel
theorem dX5_digest_15 : decode cX5_digest 15 = .ok (.istore 4, 2) := by decide +kernel
theorem dX5_digest_17 : decode cX5_digest 17 = .ok (.iload 4, 2) := by decide +kernel
theorem dX5_digest_19 : decode cX5_digest 19 = .ok (.bipush 9, 2) := by decide +kernel
theorem dX5_digest_21 : decode cX5_digest 21 = .ok (.if_icmp .ge 24, 3) := by decide +kernel
theorem dX5_digest_24 : decode cX5_digest 24 = .ok (.ldc2_w 180, 3) := by decide +kernel
theorem dX5_digest_27 : decode cX5_digest 27 = .ok (.lload_n 1, 1) := by decide +kernel
theorem dX5_digest_28 : decode cX5_digest 28 = .ok (.lmul, 1) := by decide +kernel
theorem dX5_digest_29 : decode cX5_digest 29 = .ok (.aload_n 0, 1) := by decide +kernel
theorem dX5_digest_30 : decode cX5_digest 30 = .ok (.iload_n 3, 1) := by decide +kernel
theorem dX5_digest_31 : decode cX5_digest 31 = .ok (.iload 4, 2) := by decide +kernel
theorem dX5_digest_33 : decode cX5_digest 33 = .ok (.invokevirtual 182, 3) := by decide +kernel
theorem dX5_digest_36 : decode cX5_digest 36 = .ok (.i2l, 1) := by decide +kernel
theorem dX5_digest_37 : decode cX5_digest 37 = .ok (.ladd, 1) := by decide +kernel
theorem dX5_digest_38 : decode cX5_digest 38 = .ok (.lstore_n 1, 1) := by decide +kernel
theorem dX5_digest_39 : decode cX5_digest 39 = .ok (.iinc 4 1, 3) := by decide +kernel
theorem dX5_digest_42 : decode cX5_digest 42 = .ok (.goto (-25), 3) := by decide +kernel
theorem dX5_digest_45 : decode cX5_digest 45 = .ok (.iconst 0, 1) := by decide +kernel
theorem dX5_digest_46 : decode cX5_digest 46 = .ok (.istore 4, 2) := by decide +kernel
theorem dX5_digest_48 : decode cX5_digest 48 = .ok (.iload 4, 2) := by decide +kernel
theorem dX5_digest_50 : decode cX5_digest 50 = .ok (.bipush 6, 2) := by decide +kernel
theorem dX5_digest_52 : decode cX5_digest 52 = .ok (.aload_n 0, 1) := by decide +kernel
theorem dX5_digest_53 : decode cX5_digest 53 = .ok (.getfield 13, 3) := by decide +kernel
theorem dX5_digest_56 : decode cX5_digest 56 = .ok (.iload_n 3, 1) := by decide +kernel
theorem dX5_digest_57 : decode cX5_digest 57 = .ok (.iaload, 1) := by decide +kernel
theorem dX5_digest_58 : decode cX5_digest 58 = .ok (.imul, 1) := by decide +kernel
theorem dX5_digest_59 : decode cX5_digest 59 = .ok (.if_icmp .ge 29, 3) := by decide +kernel
theorem dX5_digest_62 : decode cX5_digest 62 = .ok (.ldc2_w 180, 3) := by decide +kernel
theorem dX5_digest_65 : decode cX5_digest 65 = .ok (.lload_n 1, 1) := by decide +kernel
theorem dX5_digest_66 : decode cX5_digest 66 = .ok (.lmul, 1) := by decide +kernel
theorem dX5_digest_67 : decode cX5_digest 67 = .ok (.aload_n 0, 1) := by decide +kernel
theorem dX5_digest_68 : decode cX5_digest 68 = .ok (.getfield 7, 3) := by decide +kernel
theorem dX5_digest_71 : decode cX5_digest 71 = .ok (.bipush 96, 2) := by decide +kernel
theorem dX5_digest_73 : decode cX5_digest 73 = .ok (.iload_n 3, 1) := by decide +kernel
theorem dX5_digest_74 : decode cX5_digest 74 = .ok (.imul, 1) := by decide +kernel
theorem dX5_digest_75 : decode cX5_digest 75 = .ok (.iload 4, 2) := by decide +kernel
theorem dX5_digest_77 : decode cX5_digest 77 = .ok (.iadd, 1) := by decide +kernel
theorem dX5_digest_78 : decode cX5_digest 78 = .ok (.iaload, 1) := by decide +kernel
theorem dX5_digest_79 : decode cX5_digest 79 = .ok (.i2l, 1) := by decide +kernel
theorem dX5_digest_80 : decode cX5_digest 80 = .ok (.ladd, 1) := by decide +kernel
theorem dX5_digest_81 : decode cX5_digest 81 = .ok (.lstore_n 1, 1) := by decide +kernel
theorem dX5_digest_82 : decode cX5_digest 82 = .ok (.iinc 4 1, 3) := by decide +kernel
theorem dX5_digest_85 : decode cX5_digest 85 = .ok (.goto (-37), 3) := by decide +kernel
theorem dX5_digest_88 : decode cX5_digest 88 = .ok (.iconst 0, 1) := by decide +kernel
theorem dX5_digest_89 : decode cX5_digest 89 = .ok (.istore 4, 2) := by decide +kernel
theorem dX5_digest_91 : decode cX5_digest 91 = .ok (.iload 4, 2) := by decide +kernel
theorem dX5_digest_93 : decode cX5_digest 93 = .ok (.bipush 8, 2) := by decide +kernel
theorem dX5_digest_95 : decode cX5_digest 95 = .ok (.if_icmp .ge 24, 3) := by decide +kernel
theorem dX5_digest_98 : decode cX5_digest 98 = .ok (.ldc2_w 180, 3) := by decide +kernel
theorem dX5_digest_101 : decode cX5_digest 101 = .ok (.lload_n 1, 1) := by decide +kernel
theorem dX5_digest_102 : decode cX5_digest 102 = .ok (.lmul, 1) := by decide +kernel
theorem dX5_digest_103 : decode cX5_digest 103 = .ok (.aload_n 0, 1) := by decide +kernel
theorem dX5_digest_104 : decode cX5_digest 104 = .ok (.iload_n 3, 1) := by decide +kernel
theorem dX5_digest_105 : decode cX5_digest 105 = .ok (.iload 4, 2) := by decide +kernel
theorem dX5_digest_107 : decode cX5_digest 107 = .ok (.invokevirtual 185, 3) := by decide +kernel
theorem dX5_digest_110 : decode cX5_digest 110 = .ok (.i2l, 1) := by decide +kernel
theorem dX5_digest_111 : decode cX5_digest 111 = .ok (.ladd, 1) := by decide +kernel
theorem dX5_digest_112 : decode cX5_digest 112 = .ok (.lstore_n 1, 1) := by decide +kernel
theorem dX5_digest_113 : decode cX5_digest 113 = .ok (.iinc 4 1, 3) := by decide +kernel
theorem dX5_digest_116 : decode cX5_digest 116 = .ok (.goto (-25), 3) := by decide +kernel
theorem dX5_digest_119 : decode cX5_digest 119 = .ok (.iinc 3 1, 3) := by decide +kernel
theorem dX5_digest_122 : decode cX5_digest 122 = .ok (.goto (-116), 3) := by decide +kernel
theorem dX5_digest_125 : decode cX5_digest 125 = .ok (.iconst 0, 1) := by decide +kernel
theorem dX5_digest_126 : decode cX5_digest 126 = .ok (.istore_n 3, 1) := by decide +kernel
theorem dX5_digest_127 : decode cX5_digest 127 = .ok (.iload_n 3, 1) := by decide +kernel
theorem dX5_digest_128 : decode cX5_digest 128 = .ok (.aload_n 0, 1) := by decide +kernel
theorem dX5_digest_129 : decode cX5_digest 129 = .ok (.getfield 88, 3) := by decide +kernel
theorem dX5_digest_132 : decode cX5_digest 132 = .ok (.if_icmp .ge 40, 3) := by decide +kernel
theorem dX5_digest_135 : decode cX5_digest 135 = .ok (.iconst 0, 1) := by decide +kernel
theorem dX5_digest_136 : decode cX5_digest 136 = .ok (.istore 4, 2) := by decide +kernel
theorem dX5_digest_138 : decode cX5_digest 138 = .ok (.iload 4, 2) := by decide +kernel
theorem dX5_digest_140 : decode cX5_digest 140 = .ok (.bipush 8, 2) := by decide +kernel
theorem dX5_digest_142 : decode cX5_digest 142 = .ok (.if_icmp .ge 24, 3) := by decide +kernel
theorem dX5_digest_145 : decode cX5_digest 145 = .ok (.ldc2_w 180, 3) := by decide +kernel
theorem dX5_digest_148 : decode cX5_digest 148 = .ok (.lload_n 1, 1) := by decide +kernel
theorem dX5_digest_149 : decode cX5_digest 149 = .ok (.lmul, 1) := by decide +kernel
theorem dX5_digest_150 : decode cX5_digest 150 = .ok (.aload_n 0, 1) := by decide +kernel
theorem dX5_digest_151 : decode cX5_digest 151 = .ok (.iload_n 3, 1) := by decide +kernel
theorem dX5_digest_152 : decode cX5_digest 152 = .ok (.iload 4, 2) := by decide +kernel
theorem dX5_digest_154 : decode cX5_digest 154 = .ok (.invokevirtual 188, 3) := by decide +kernel
theorem dX5_digest_157 : decode cX5_digest 157 = .ok (.i2l, 1) := by decide +kernel
theorem dX5_digest_158 : decode cX5_digest 158 = .ok (.ladd, 1) := by decide +kernel
theorem dX5_digest_159 : decode cX5_digest 159 = .ok (.lstore_n 1, 1) := by decide +kernel
theorem dX5_digest_160 : decode cX5_digest 160 = .ok (.iinc 4 1, 3) := by decide +kernel
theorem dX5_digest_163 : decode cX5_digest 163 = .ok (.goto (-25), 3) := by decide +kernel
theorem dX5_digest_166 : decode cX5_digest 166 = .ok (.iinc 3 1, 3) := by decide +kernel
theorem dX5_digest_169 : decode cX5_digest 169 = .ok (.goto (-42), 3) := by decide +kernel
theorem dX5_digest_172 : decode cX5_digest 172 = .ok (.lload_n 1, 1) := by decide +kernel
theorem dX5_digest_173 : decode cX5_digest 173 = .ok (.lreturn, 1) := by decide +kernel
