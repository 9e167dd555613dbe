theorem dX3_best_111 : decode cX3_best 111 = .ok (.iinc 7 1, 3) := by decide +kernel
theorem dX3_best_114 : decode cX3_best 114 = .ok (.goto (-55), 3) := by decide +kernel
theorem dX3_best_117 : decode cX3_best 117 = .ok (.iinc 6 1, 3) := by decide +kernel
theorem dX3_best_120 : decode cX3_best 120 = .ok (.goto (-72), 3) := by decide +kernel
theorem dX3_best_123 : decode cX3_best 123 = .ok (.iload_n 2, 1) := by decide +kernel
theorem dX3_best_124 : decode cX3_best 124 = .ok (.ifCond .ne 11, 3) := by decide +kernel
theorem dX3_best_127 : decode cX3_best 127 = .ok (.iload 4, 2) := by decide +kernel
theorem dX3_best_129 : decode cX3_best 129 = .ok (.bipush 100, 2) := by decide +kernel
theorem dX3_best_131 : decode cX3_best 131 = .ok (.iadd, 1) := by decide +kernel
theorem dX3_best_132 : decode cX3_best 132 = .ok (.goto 17, 3) := by decide +kernel
theorem dX3_best_135 : decode cX3_best 135 = .ok (.iload_n 2, 1) := by decide +kernel
theorem dX3_best_136 : decode cX3_best 136 = .ok (.iconst 1, 1) := by decide +kernel
theorem dX3_best_137 : decode cX3_best 137 = .ok (.if_icmp .ne 11, 3) := by decide +kernel
theorem dX3_best_140 : decode cX3_best 140 = .ok (.iload 5, 2) := by decide +kernel
theorem dX3_best_142 : decode cX3_best 142 = .ok (.bipush 100, 2) := by decide +kernel
theorem dX3_best_144 : decode cX3_best 144 = .ok (.iadd, 1) := by decide +kernel
theorem dX3_best_145 : decode cX3_best 145 = .ok (.goto 4, 3) := by decide +kernel
theorem dX3_best_148 : decode cX3_best 148 = .ok (.iload_n 3, 1) := by decide +kernel
theorem dX3_best_149 : decode cX3_best 149 = .ok (.ireturn, 1) := by decide +kernel
set_option maxRecDepth 20000 in
theorem ggX3_same_X3_isLayer : GoodIn wsX3_same wsX3_isLayer := goodIn_r _ [4, 5, 6, 3, 7] (by decide +kernel) (by decide +kernel)
set_option maxRecDepth 20000 in
theorem gX3_same_X3_isLayer : GoodIn wsX3_same (va_wsS RX3 43 yX3_isLayer wsX3_isLayer) := goodIn_app (goodIn_of _ (by decide +kernel)) ggX3_same_X3_isLayer
set_option maxRecDepth 20000 in
theorem ggX3_same_X3_coverOf : GoodIn wsX3_same wsX3_coverOf := goodIn_r _ [11, 12, 13, 14, 3, 15, 16, 17, 18, 19, 20, 21, 22, 23, 24, 25, 26, 27, 28, 29, 30, 31, 32, 33, 34, 35, 36, 37, 38, 39, 40, 41, 42, 43, 44, 45, 46, 47, 48, 49, 50, 51, 52, 53, 54, 55, 56, 57, 58, 59, 60, 61, 62, 63, 64, 65, 66, 67, 68, 69, 70, 71] (by decide +kernel) (by decide +kernel)
set_option maxRecDepth 20000 in
theorem gX3_same_X3_coverOf : GoodIn wsX3_same (wsV RX3 138 RX3 yX3_coverOf wsX3_coverOf) := goodIn_app (goodIn_of _ (by decide +kernel)) ggX3_same_X3_coverOf
theorem dX3_same_0 : decode cX3_same 0 = .ok (.iload_n 1, 1) := by decide +kernel
theorem dX3_same_1 : decode cX3_same 1 = .ok (.invokestatic 43, 3) := by decide +kernel
theorem dX3_same_4 : decode cX3_same 4 = .ok (.ifCond .eq 10, 3) := by decide +kernel
theorem dX3_same_7 : decode cX3_same 7 = .ok (.iload_n 2, 1) := by decide +kernel
theorem dX3_same_8 : decode cX3_same 8 = .ok (.invokestatic 43, 3) := by decide +kernel
theorem dX3_same_11 : decode cX3_same 11 = .ok (.ifCond .ne 5, 3) := by decide +kernel
theorem dX3_same_14 : decode cX3_same 14 = .ok (.iconst (-1), 1) := by decide +kernel
theorem dX3_same_15 : decode cX3_same 15 = .ok (.ireturn, 1) := by decide +kernel
theorem dX3_same_16 : decode cX3_same 16 = .ok (.iconst 0, 1) := by decide +kernel
theorem dX3_same_17 : decode cX3_same 17 = .ok (.istore_n 3, 1) := by decide +kernel
theorem dX3_same_18 : decode cX3_same 18 = .ok (.iconst 0, 1) := by decide +kernel
theorem dX3_same_19 : decode cX3_same 19 = .ok (.istore 4, 2) := by decide +kernel
theorem dX3_same_21 : decode cX3_same 21 = .ok (.iload 4, 2) := by decide +kernel
theorem dX3_same_23 : decode cX3_same 23 = .ok (.bipush 16, 2) := by decide +kernel
theorem dX3_same_25 : decode cX3_same 25 = .ok (.if_icmp .ge 38, 3) := by decide +kernel
theorem dX3_same_28 : decode cX3_same 28 = .ok (.iload_n 3, 1) := by decide +kernel
theorem dX3_same_29 : decode cX3_same 29 = .ok (.aload_n 0, 1) := by decide +kernel
theorem dX3_same_30 : decode cX3_same 30 = .ok (.iload_n 1, 1) := by decide +kernel
theorem dX3_same_31 : decode cX3_same 31 = .ok (.iload 4, 2) := by decide +kernel
theorem dX3_same_33 : decode cX3_same 33 = .ok (.invokevirtual 138, 3) := by decide +kernel
theorem dX3_same_36 : decode cX3_same 36 = .ok (.aload_n 0, 1) := by decide +kernel
theorem dX3_same_37 : decode cX3_same 37 = .ok (.iload_n 2, 1) := by decide +kernel
theorem dX3_same_38 : decode cX3_same 38 = .ok (.iload 4, 2) := by decide +kernel
theorem dX3_same_40 : decode cX3_same 40 = .ok (.invokevirtual 138, 3) := by decide +kernel
theorem dX3_same_43 : decode cX3_same 43 = .ok (.lcmp, 1) := by decide +kernel
theorem dX3_same_44 : decode cX3_same 44 = .ok (.ifCond .ne 10, 3) := by decide +kernel
theorem dX3_same_47 : decode cX3_same 47 = .ok (.iconst 1, 1) := by decide +kernel
theorem dX3_same_48 : decode cX3_same 48 = .ok (.iload 4, 2) := by decide +kernel
theorem dX3_same_50 : decode cX3_same 50 = .ok (.ishl, 1) := by decide +kernel
theorem dX3_same_51 : decode cX3_same 51 = .ok (.goto 4, 3) := by decide +kernel
theorem dX3_same_54 : decode cX3_same 54 = .ok (.iconst 0, 1) := by decide +kernel
theorem dX3_same_55 : decode cX3_same 55 = .ok (.ior, 1) := by decide +kernel
theorem dX3_same_56 : decode cX3_same 56 = .ok (.istore_n 3, 1) := by decide +kernel
theorem dX3_same_57 : decode cX3_same 57 = .ok (.iinc 4 1, 3) := by decide +kernel
theorem dX3_same_60 : decode cX3_same 60 = .ok (.goto (-39), 3) := by decide +kernel
theorem dX3_same_63 : decode cX3_same 63 = .ok (.iload_n 3, 1) := by decide +kernel
theorem dX3_same_64 : decode cX3_same 64 = .ok (.ireturn, 1) := by decide +kernel
set_option maxRecDepth 20000 in
theorem ggX3_image_X3_in : GoodIn wsX3_image wsX3_in := goodIn_r _ [7] (by decide +kernel) (by decide +kernel)
set_option maxRecDepth 20000 in
theorem gX3_image_X3_in : GoodIn wsX3_image (va_wsS RX3 39 yX3_in wsX3_in) := goodIn_app (goodIn_of _ (by decide +kernel)) ggX3_image_X3_in
theorem dX3_image_0 : decode cX3_image 0 = .ok (.iload_n 1, 1) := by decide +kernel
theorem dX3_image_1 : decode cX3_image 1 = .ok (.iconst 0, 1) := by decide +kernel
theorem dX3_image_2 : decode cX3_image 2 = .ok (.iconst 1, 1) := by decide +kernel
theorem dX3_image_3 : decode cX3_image 3 = .ok (.invokestatic 39, 3) := by decide +kernel
theorem dX3_image_6 : decode cX3_image 6 = .ok (.ifCond .ne 6, 3) := by decide +kernel
theorem dX3_image_9 : decode cX3_image 9 = .ok (.bipush (-2), 2) := by decide +kernel
theorem dX3_image_11 : decode cX3_image 11 = .ok (.ireturn, 1) := by decide +kernel
theorem dX3_image_12 : decode cX3_image 12 = .ok (.iconst 0, 1) := by decide +kernel
theorem dX3_image_13 : decode cX3_image 13 = .ok (.istore_n 2, 1) := by decide +kernel
theorem dX3_image_14 : decode cX3_image 14 = .ok (.iload_n 2, 1) := by decide +kernel
theorem dX3_image_15 : decode cX3_image 15 = .ok (.bipush 54, 2) := by decide +kernel
theorem dX3_image_17 : decode cX3_image 17 = .ok (.if_icmp .ge 26, 3) := by decide +kernel
theorem dX3_image_20 : decode cX3_image 20 = .ok (.aload_n 0, 1) := by decide +kernel
theorem dX3_image_21 : decode cX3_image 21 = .ok (.getfield 13, 3) := by decide +kernel
theorem dX3_image_24 : decode cX3_image 24 = .ok (.bipush 54, 2) := by decide +kernel
theorem dX3_image_26 : decode cX3_image 26 = .ok (.iload_n 1, 1) := by decide +kernel
theorem dX3_image_27 : decode cX3_image 27 = .ok (.imul, 1) := by decide +kernel
theorem dX3_image_28 : decode cX3_image 28 = .ok (.iload_n 2, 1) := by decide +kernel
theorem dX3_image_29 : decode cX3_image 29 = .ok (.iadd, 1) := by decide +kernel
theorem dX3_image_30 : decode cX3_image 30 = .ok (.aload_n 0, 1) := by decide +kernel
theorem dX3_image_31 : decode cX3_image 31 = .ok (.getfield 7, 3) := by decide +kernel
theorem dX3_image_34 : decode cX3_image 34 = .ok (.iload_n 2, 1) := by decide +kernel
theorem dX3_image_35 : decode cX3_image 35 = .ok (.iaload, 1) := by decide +kernel
theorem dX3_image_36 : decode cX3_image 36 = .ok (.iastore, 1) := by decide +kernel
theorem dX3_image_37 : decode cX3_image 37 = .ok (.iinc 2 1, 3) := by decide +kernel
theorem dX3_image_40 : decode cX3_image 40 = .ok (.goto (-26), 3) := by decide +kernel
theorem dX3_image_43 : decode cX3_image 43 = .ok (.aload_n 0, 1) := by decide +kernel
theorem dX3_image_44 : decode cX3_image 44 = .ok (.getfield 16, 3) := by decide +kernel
theorem dX3_image_47 : decode cX3_image 47 = .ok (.iload_n 1, 1) := by decide +kernel
theorem dX3_image_48 : decode cX3_image 48 = .ok (.iconst 1, 1) := by decide +kernel
theorem dX3_image_49 : decode cX3_image 49 = .ok (.bastore, 1) := by decide +kernel
theorem dX3_image_50 : decode cX3_image 50 = .ok (.iconst 1, 1) := by decide +kernel
theorem dX3_image_51 : decode cX3_image 51 = .ok (.ireturn, 1) := by decide +kernel
set_option maxRecDepth 20000 in
theorem ggX3_restore_X3_in : GoodIn wsX3_restore wsX3_in := goodIn_r _ [7] (by decide +kernel) (by decide +kernel)
set_option maxRecDepth 20000 in
theorem gX3_restore_X3_in : GoodIn wsX3_restore (va_wsS RX3 39 yX3_in wsX3_in) := goodIn_app (goodIn_of _ (by decide +kernel)) ggX3_restore_X3_in
theorem dX3_restore_0 : decode cX3_restore 0 = .ok (.iload_n 1, 1) := by decide +kernel
theorem dX3_restore_1 : decode cX3_restore 1 = .ok (.iconst 0, 1) := by decide +kernel
theorem dX3_restore_2 : decode cX3_restore 2 = .ok (.iconst 1, 1) := by decide +kernel
theorem dX3_restore_3 : decode cX3_restore 3 = .ok (.invokestatic 39, 3) := by decide +kernel
theorem dX3_restore_6 : decode cX3_restore 6 = .ok (.ifCond .ne 6, 3) := by decide +kernel
theorem dX3_restore_9 : decode cX3_restore 9 = .ok (.bipush (-2), 2) := by decide +kernel
theorem dX3_restore_11 : decode cX3_restore 11 = .ok (.ireturn, 1) := by decide +kernel
theorem dX3_restore_12 : decode cX3_restore 12 = .ok (.aload_n 0, 1) := by decide +kernel
theorem dX3_restore_13 : decode cX3_restore 13 = .ok (.getfield 16, 3) := by decide +kernel
theorem dX3_restore_16 : decode cX3_restore 16 = .ok (.iload_n 1, 1) := by decide +kernel
theorem dX3_restore_17 : decode cX3_restore 17 = .ok (.baload, 1) := by decide +kernel
theorem dX3_restore_18 : decode cX3_restore 18 = .ok (.ifCond .ne 6, 3) := by decide +kernel
theorem dX3_restore_21 : decode cX3_restore 21 = .ok (.bipush (-3), 2) := by decide +kernel
theorem dX3_restore_23 : decode cX3_restore 23 = .ok (.ireturn, 1) := by decide +kernel
theorem dX3_restore_24 : decode cX3_restore 24 = .ok (.iconst 0, 1) := by decide +kernel
theorem dX3_restore_25 : decode cX3_restore 25 = .ok (.istore_n 2, 1) := by decide +kernel
theorem dX3_restore_26 : decode cX3_restore 26 = .ok (.iload_n 2, 1) := by decide +kernel
theorem dX3_restore_27 : decode cX3_restore 27 = .ok (.bipush 54, 2) := by decide +kernel
theorem dX3_restore_29 : decode cX3_restore 29 = .ok (.if_icmp .ge 26, 3) := by decide +kernel
theorem dX3_restore_32 : decode cX3_restore 32 = .ok (.aload_n 0, 1) := by decide +kernel
theorem dX3_restore_33 : decode cX3_restore 33 = .ok (.getfield 7, 3) := by decide +kernel
theorem dX3_restore_36 : decode cX3_restore 36 = .ok (.iload_n 2, 1) := by decide +kernel
theorem dX3_restore_37 : decode cX3_restore 37 = .ok (.aload_n 0, 1) := by decide +kernel
theorem dX3_restore_38 : decode cX3_restore 38 = .ok (.getfield 13, 3) := by decide +kernel
theorem dX3_restore_41 : decode cX3_restore 41 = .ok (.bipush 54, 2) := by decide +kernel
theorem dX3_restore_43 : decode cX3_restore 43 = .ok (.iload_n 1, 1) := by decide +kernel
theorem dX3_restore_44 : decode cX3_restore 44 = .ok (.imul, 1) := by decide +kernel
theorem dX3_restore_45 : decode cX3_restore 45 = .ok (.iload_n 2, 1) := by decide +kernel
theorem dX3_restore_46 : decode cX3_restore 46 = .ok (.iadd, 1) := by decide +kernel
theorem dX3_restore_47 : decode cX3_restore 47 = .ok (.iaload, 1) := by decide +kernel
theorem dX3_restore_48 : decode cX3_restore 48 = .ok (.iastore, 1) := by decide +kernel
theorem dX3_restore_49 : decode cX3_restore 49 = .ok (.iinc 2 1, 3) := by decide +kernel
theorem dX3_restore_52 : decode cX3_restore 52 = .ok (.goto (-26), 3) := by decide +kernel
theorem dX3_restore_55 : decode cX3_restore 55 = .ok (.iconst 1, 1) := by decide +kernel
theorem dX3_restore_56 : decode cX3_restore 56 = .ok (.ireturn, 1) := by decide +kernel
set_option maxRecDepth 20000 in
theorem ggX3_count_X3_in : GoodIn wsX3_count wsX3_in := goodIn_r _ [6] (by decide +kernel) (by decide +kernel)
set_option maxRecDepth 20000 in
theorem gX3_count_X3_in : GoodIn wsX3_count (va_wsS RX3 39 yX3_in wsX3_in) := goodIn_app (goodIn_of _ (by decide +kernel)) ggX3_count_X3_in
theorem dX3_count_0 : decode cX3_count 0 = .ok (.iload_n 1, 1) := by decide +kernel
theorem dX3_count_1 : decode cX3_count 1 = .ok (.bipush 10, 2) := by decide +kernel
theorem dX3_count_3 : decode cX3_count 3 = .ok (.bipush 12, 2) := by decide +kernel
theorem dX3_count_5 : decode cX3_count 5 = .ok (.invokestatic 39, 3) := by decide +kernel
theorem dX3_count_8 : decode cX3_count 8 = .ok (.ifCond .eq 15, 3) := by decide +kernel
theorem dX3_count_11 : decode cX3_count 11 = .ok (.aload_n 0, 1) := by decide +kernel
theorem dX3_count_12 : decode cX3_count 12 = .ok (.getfield 7, 3) := by decide +kernel
theorem dX3_count_15 : decode cX3_count 15 = .ok (.iconst 3, 1) := by decide +kernel
theorem dX3_count_16 : decode cX3_count 16 = .ok (.iload_n 1, 1) := by decide +kernel
theorem dX3_count_17 : decode cX3_count 17 = .ok (.iadd, 1) := by decide +kernel
theorem dX3_count_18 : decode cX3_count 18 = .ok (.bipush 10, 2) := by decide +kernel
theorem dX3_count_20 : decode cX3_count 20 = .ok (.isub, 1) := by decide +kernel
theorem dX3_count_21 : decode cX3_count 21 = .ok (.iaload, 1) := by decide +kernel
theorem dX3_count_22 : decode cX3_count 22 = .ok (.ireturn, 1) := by decide +kernel
theorem dX3_count_23 : decode cX3_count 23 = .ok (.iload_n 1, 1) := by decide +kernel
theorem dX3_count_24 : decode cX3_count 24 = .ok (.iconst 0, 1) := by decide +kernel
theorem dX3_count_25 : decode cX3_count 25 = .ok (.iconst 2, 1) := by decide +kernel
theorem dX3_count_26 : decode cX3_count 26 = .ok (.invokestatic 39, 3) := by decide +kernel
theorem dX3_count_29 : decode cX3_count 29 = .ok (.ifCond .eq 12, 3) := by decide +kernel
theorem dX3_count_32 : decode cX3_count 32 = .ok (.aload_n 0, 1) := by decide +kernel
theorem dX3_count_33 : decode cX3_count 33 = .ok (.getfield 7, 3) := by decide +kernel
theorem dX3_count_36 : decode cX3_count 36 = .ok (.iconst 0, 1) := by decide +kernel
theorem dX3_count_37 : decode cX3_count 37 = .ok (.iload_n 1, 1) := by decide +kernel
theorem dX3_count_38 : decode cX3_count 38 = .ok (.iadd, 1) := by decide +kernel
theorem dX3_count_39 : decode cX3_count 39 = .ok (.iaload, 1) := by decide +kernel
theorem dX3_count_40 : decode cX3_count 40 = .ok (.ireturn, 1) := by decide +kernel
theorem dX3_count_41 : decode cX3_count 41 = .ok (.iload_n 1, 1) := by decide +kernel
theorem dX3_count_42 : decode cX3_count 42 = .ok (.iconst 3, 1) := by decide +kernel
theorem dX3_count_43 : decode cX3_count 43 = .ok (.if_icmp .ne 24, 3) := by decide +kernel
theorem dX3_count_46 : decode cX3_count 46 = .ok (.aload_n 0, 1) := by decide +kernel
theorem dX3_count_47 : decode cX3_count 47 = .ok (.getfield 7, 3) := by decide +kernel
theorem dX3_count_50 : decode cX3_count 50 = .ok (.iconst 0, 1) := by decide +kernel
theorem dX3_count_51 : decode cX3_count 51 = .ok (.iaload, 1) := by decide +kernel
theorem dX3_count_52 : decode cX3_count 52 = .ok (.aload_n 0, 1) := by decide +kernel
theorem dX3_count_53 : decode cX3_count 53 = .ok (.getfield 7, 3) := by decide +kernel
theorem dX3_count_56 : decode cX3_count 56 = .ok (.iconst 1, 1) := by decide +kernel
theorem dX3_count_57 : decode cX3_count 57 = .ok (.iaload, 1) := by decide +kernel
theorem dX3_count_58 : decode cX3_count 58 = .ok (.iadd, 1) := by decide +kernel
theorem dX3_count_59 : decode cX3_count 59 = .ok (.aload_n 0, 1) := by decide +kernel
theorem dX3_count_60 : decode cX3_count 60 = .ok (.getfield 7, 3) := by decide +kernel
theorem dX3_count_63 : decode cX3_count 63 = .ok (.iconst 2, 1) := by decide +kernel
theorem dX3_count_64 : decode cX3_count 64 = .ok (.iaload, 1) := by decide +kernel
theorem dX3_count_65 : decode cX3_count 65 = .ok (.iadd, 1) := by decide +kernel
theorem dX3_count_66 : decode cX3_count 66 = .ok (.ireturn, 1) := by decide +kernel
theorem dX3_count_67 : decode cX3_count 67 = .ok (.iload_n 1, 1) := by decide +kernel
theorem dX3_count_68 : decode cX3_count 68 = .ok (.iconst 4, 1) := by decide +kernel
theorem dX3_count_69 : decode cX3_count 69 = .ok (.if_icmp .ne 35, 3) := by decide +kernel
theorem dX3_count_72 : decode cX3_count 72 = .ok (.aload_n 0, 1) := by decide +kernel
theorem dX3_count_73 : decode cX3_count 73 = .ok (.getfield 16, 3) := by decide +kernel
theorem dX3_count_76 : decode cX3_count 76 = .ok (.iconst 0, 1) := by decide +kernel
theorem dX3_count_77 : decode cX3_count 77 = .ok (.baload, 1) := by decide +kernel
theorem dX3_count_78 : decode cX3_count 78 = .ok (.ifCond .eq 7, 3) := by decide +kernel
theorem dX3_count_81 : decode cX3_count 81 = .ok (.iconst 1, 1) := by decide +kernel
theorem dX3_count_82 : decode cX3_count 82 = .ok (.goto 4, 3) := by decide +kernel
theorem dX3_count_85 : decode cX3_count 85 = .ok (.iconst 0, 1) := by decide +kernel
theorem dX3_count_86 : decode cX3_count 86 = .ok (.aload_n 0, 1) := by decide +kernel
theorem dX3_count_87 : decode cX3_count 87 = .ok (.getfield 16, 3) := by decide +kernel
theorem dX3_count_90 : decode cX3_count 90 = .ok (.iconst 1, 1) := by decide +kernel
theorem dX3_count_91 : decode cX3_count 91 = .ok (.baload, 1) := by decide +kernel
theorem dX3_count_92 : decode cX3_count 92 = .ok (.ifCond .eq 7, 3) := by decide +kernel
theorem dX3_count_95 : decode cX3_count 95 = .ok (.iconst 2, 1) := by decide +kernel
theorem dX3_count_96 : decode cX3_count 96 = .ok (.goto 4, 3) := by decide +kernel
theorem dX3_count_99 : decode cX3_count 99 = .ok (.iconst 0, 1) := by decide +kernel
theorem dX3_count_100 : decode cX3_count 100 = .ok (.iadd, 1) := by decide +kernel
theorem dX3_count_101 : decode cX3_count 101 = .ok (.goto 5, 3) := by decide +kernel
theorem dX3_count_104 : decode cX3_count 104 = .ok (.bipush (-2), 2) := by decide +kernel
theorem dX3_count_106 : decode cX3_count 106 = .ok (.ireturn, 1) := by decide +kernel
theorem dJ9_abs_0f7a4_0 : decode cJ9_abs_0f7a4 0 = .ok (.iload_n 0, 1) := by decide +kernel
theorem dJ9_abs_0f7a4_1 : decode cJ9_abs_0f7a4 1 = .ok (.ifCond .ge 8, 3) := by decide +kernel
theorem dJ9_abs_0f7a4_4 : decode cJ9_abs_0f7a4 4 = .ok (.iload_n 0, 1) := by decide +kernel
theorem dJ9_abs_0f7a4_5 : decode cJ9_abs_0f7a4 5 = .ok (.ineg, 1) := by decide +kernel
theorem dJ9_abs_0f7a4_6 : decode cJ9_abs_0f7a4 6 = .ok (.goto 4, 3) := by decide +kernel
theorem dJ9_abs_0f7a4_9 : decode cJ9_abs_0f7a4 9 = .ok (.iload_n 0, 1) := by decide +kernel
theorem dJ9_abs_0f7a4_10 : decode cJ9_abs_0f7a4 10 = .ok (.ireturn, 1) := by decide +kernel
theorem dJ9_abs_067f4_0 : decode cJ9_abs_067f4 0 = .ok (.lload_n 0, 1) := by decide +kernel
theorem dJ9_abs_067f4_1 : decode cJ9_abs_067f4 1 = .ok (.lconst 0, 1) := by decide +kernel
theorem dJ9_abs_067f4_2 : decode cJ9_abs_067f4 2 = .ok (.lcmp, 1) := by decide +kernel
theorem dJ9_abs_067f4_3 : decode cJ9_abs_067f4 3 = .ok (.ifCond .ge 8, 3) := by decide +kernel
theorem dJ9_abs_067f4_6 : decode cJ9_abs_067f4 6 = .ok (.lload_n 0, 1) := by decide +kernel
theorem dJ9_abs_067f4_7 : decode cJ9_abs_067f4 7 = .ok (.lneg, 1) := by decide +kernel
theorem dJ9_abs_067f4_8 : decode cJ9_abs_067f4 8 = .ok (.goto 4, 3) := by decide +kernel
theorem dJ9_abs_067f4_11 : decode cJ9_abs_067f4 11 = .ok (.lload_n 0, 1) := by decide +kernel
theorem dJ9_abs_067f4_12 : decode cJ9_abs_067f4 12 = .ok (.lreturn, 1) := by decide +kernel
theorem dJ9_max_7cf53_0 : decode cJ9_max_7cf53 0 = .ok (.iload_n 0, 1) := by decide +kernel
theorem dJ9_max_7cf53_1 : decode cJ9_max_7cf53 1 = .ok (.iload_n 1, 1) := by decide +kernel
theorem dJ9_max_7cf53_2 : decode cJ9_max_7cf53 2 = .ok (.if_icmp .lt 7, 3) := by decide +kernel
theorem dJ9_max_7cf53_5 : decode cJ9_max_7cf53 5 = .ok (.iload_n 0, 1) := by decide +kernel
theorem dJ9_max_7cf53_6 : decode cJ9_max_7cf53 6 = .ok (.goto 4, 3) := by decide +kernel
theorem dJ9_max_7cf53_9 : decode cJ9_max_7cf53 9 = .ok (.iload_n 1, 1) := by decide +kernel
theorem dJ9_max_7cf53_10 : decode cJ9_max_7cf53 10 = .ok (.ireturn, 1) := by decide +kernel
theorem dJ9_min_7cf53_0 : decode cJ9_min_7cf53 0 = .ok (.iload_n 0, 1) := by decide +kernel
theorem dJ9_min_7cf53_1 : decode cJ9_min_7cf53 1 = .ok (.iload_n 1, 1) := by decide +kernel
theorem dJ9_min_7cf53_2 : decode cJ9_min_7cf53 2 = .ok (.if_icmp .gt 7, 3) := by decide +kernel
theorem dJ9_min_7cf53_5 : decode cJ9_min_7cf53 5 = .ok (.iload_n 0, 1) := by decide +kernel
theorem dJ9_min_7cf53_6 : decode cJ9_min_7cf53 6 = .ok (.goto 4, 3) := by decide +kernel
theorem dJ9_min_7cf53_9 : decode cJ9_min_7cf53 9 = .ok (.iload_n 1, 1) := by decide +kernel
theorem dJ9_min_7cf53_10 : decode cJ9_min_7cf53 10 = .ok (.ireturn, 1) := by decide +kernel
theorem dJ9_min_f86c9_0 : decode cJ9_min_f86c9 0 = .ok (.lload_n 0, 1) := by decide +kernel
theorem dJ9_min_f86c9_1 : decode cJ9_min_f86c9 1 = .ok (.lload_n 2, 1) := by decide +kernel
theorem dJ9_min_f86c9_2 : decode cJ9_min_f86c9 2 = .ok (.lcmp, 1) := by decide +kernel
theorem dJ9_min_f86c9_3 : decode cJ9_min_f86c9 3 = .ok (.ifCond .gt 7, 3) := by decide +kernel
theorem dJ9_min_f86c9_6 : decode cJ9_min_f86c9 6 = .ok (.lload_n 0, 1) := by decide +kernel
theorem dJ9_min_f86c9_7 : decode cJ9_min_f86c9 7 = .ok (.goto 4, 3) := by decide +kernel
theorem dJ9_min_f86c9_10 : decode cJ9_min_f86c9 10 = .ok (.lload_n 2, 1) := by decide +kernel
theorem dJ9_min_f86c9_11 : decode cJ9_min_f86c9 11 = .ok (.lreturn, 1) := by decide +kernel
abbrev vwCl : List vw_C := [(RX0, TX0, 4), (RX1, TX1, 1), (RX2, TX2, 3), (RX3, TX3, 11)]
