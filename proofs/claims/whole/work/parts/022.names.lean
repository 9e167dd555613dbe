set_option maxRecDepth 20000 in
theorem gX2_field_X1_dotsWithTogether : GoodIn wsX2_field (wsV RX2 112 RX1 yX1_dotsWithTogether wsX1_dotsWithTogether) := goodIn_app (goodIn_of _ (by decide +kernel)) ggX2_field_X1_dotsWithTogether
theorem dX2_field_0 : decode cX2_field 0 = .ok (.iload_n 1, 1) := by decide +kernel
theorem dX2_field_1 : decode cX2_field 1 = .ok (.tableswitch 67 0 3 #[31, 39, 47, 58], 31) := by decide +kernel
theorem dX2_field_32 : decode cX2_field 32 = .ok (.aload_n 0, 1) := by decide +kernel
theorem dX2_field_33 : decode cX2_field 33 = .ok (.getfield 12, 3) := by decide +kernel
theorem dX2_field_36 : decode cX2_field 36 = .ok (.invokevirtual 105, 3) := by decide +kernel
theorem dX2_field_39 : decode cX2_field 39 = .ok (.ireturn, 1) := by decide +kernel
theorem dX2_field_40 : decode cX2_field 40 = .ok (.aload_n 0, 1) := by decide +kernel
theorem dX2_field_41 : decode cX2_field 41 = .ok (.getfield 12, 3) := by decide +kernel
theorem dX2_field_44 : decode cX2_field 44 = .ok (.invokevirtual 109, 3) := by decide +kernel
theorem dX2_field_47 : decode cX2_field 47 = .ok (.ireturn, 1) := by decide +kernel
theorem dX2_field_48 : decode cX2_field 48 = .ok (.aload_n 0, 1) := by decide +kernel
theorem dX2_field_49 : decode cX2_field 49 = .ok (.getfield 12, 3) := by decide +kernel
theorem dX2_field_52 : decode cX2_field 52 = .ok (.ldc2_w 101, 3) := by decide +kernel
theorem dX2_field_55 : decode cX2_field 55 = .ok (.invokevirtual 112, 3) := by decide +kernel
theorem dX2_field_58 : decode cX2_field 58 = .ok (.ireturn, 1) := by decide +kernel
theorem dX2_field_59 : decode cX2_field 59 = .ok (.aload_n 0, 1) := by decide +kernel
theorem dX2_field_60 : decode cX2_field 60 = .ok (.getfield 12, 3) := by decide +kernel
theorem dX2_field_63 : decode cX2_field 63 = .ok (.lconst 0, 1) := by decide +kernel
theorem dX2_field_64 : decode cX2_field 64 = .ok (.invokevirtual 112, 3) := by decide +kernel
theorem dX2_field_67 : decode cX2_field 67 = .ok (.ireturn, 1) := by decide +kernel
theorem dX2_field_68 : decode cX2_field 68 = .ok (.bipush (-2), 2) := by decide +kernel
theorem dX2_field_70 : decode cX2_field 70 = .ok (.ireturn, 1) := by decide +kernel
set_option maxRecDepth 20000 in
theorem ggX2_best_X1_layerOf : GoodIn wsX2_best wsX1_layerOf := goodIn_r _ [6, 7, 8, 9, 10, 73] (by decide +kernel) (by decide +kernel)
set_option maxRecDepth 20000 in
theorem gX2_best_X1_layerOf : GoodIn wsX2_best (wsV RX2 24 RX1 yX1_layerOf wsX1_layerOf) := goodIn_app (goodIn_of _ (by decide +kernel)) ggX2_best_X1_layerOf
set_option maxRecDepth 20000 in
theorem ggX2_best_X2_within : GoodIn wsX2_best wsX2_within := goodIn_r _ [10] (by decide +kernel) (by decide +kernel)
set_option maxRecDepth 20000 in
theorem gX2_best_X2_within : GoodIn wsX2_best (va_wsS RX2 51 yX2_within wsX2_within) := goodIn_app (goodIn_of _ (by decide +kernel)) ggX2_best_X2_within
set_option maxRecDepth 20000 in
theorem ggX2_best_X0_bestMove : GoodIn wsX2_best wsX0_bestMove := goodIn_r _ [16, 17, 18, 19, 20, 21, 15, 22, 23, 24, 25, 26, 27, 28, 29, 30, 31, 32, 33, 34, 35, 36, 37, 38, 39, 40, 41, 42, 43, 44, 45, 46, 47, 48, 49, 50, 51, 52, 53, 54, 55, 56, 57, 58, 59, 60, 61, 62, 63, 64, 65, 69, 70, 71, 72] (by decide +kernel) (by decide +kernel)
set_option maxRecDepth 20000 in
theorem gX2_best_X0_bestMove : GoodIn wsX2_best (wsV RX2 116 RX0 yX0_bestMove wsX0_bestMove) := goodIn_app (goodIn_of _ (by decide +kernel)) ggX2_best_X0_bestMove
theorem dX2_best_0 : decode cX2_best 0 = .ok (.aload_n 0, 1) := by decide +kernel
theorem dX2_best_1 : decode cX2_best 1 = .ok (.getfield 12, 3) := by decide +kernel
theorem dX2_best_4 : decode cX2_best 4 = .ok (.iload_n 1, 1) := by decide +kernel
theorem dX2_best_5 : decode cX2_best 5 = .ok (.invokevirtual 24, 3) := by decide +kernel
theorem dX2_best_8 : decode cX2_best 8 = .ok (.astore_n 3, 1) := by decide +kernel
theorem dX2_best_9 : decode cX2_best 9 = .ok (.aload_n 3, 1) := by decide +kernel
theorem dX2_best_10 : decode cX2_best 10 = .ok (.ifnonnull 5, 3) := by decide +kernel
theorem dX2_best_13 : decode cX2_best 13 = .ok (.iconst (-1), 1) := by decide +kernel
theorem dX2_best_14 : decode cX2_best 14 = .ok (.ireturn, 1) := by decide +kernel
theorem dX2_best_15 : decode cX2_best 15 = .ok (.iload_n 2, 1) := by decide +kernel
theorem dX2_best_16 : decode cX2_best 16 = .ok (.iconst 0, 1) := by decide +kernel
theorem dX2_best_17 : decode cX2_best 17 = .ok (.iconst 2, 1) := by decide +kernel
theorem dX2_best_18 : decode cX2_best 18 = .ok (.invokestatic 51, 3) := by decide +kernel
theorem dX2_best_21 : decode cX2_best 21 = .ok (.ifCond .ne 6, 3) := by decide +kernel
theorem dX2_best_24 : decode cX2_best 24 = .ok (.bipush (-2), 2) := by decide +kernel
theorem dX2_best_26 : decode cX2_best 26 = .ok (.ireturn, 1) := by decide +kernel
theorem dX2_best_27 : decode cX2_best 27 = .ok (.aload_n 3, 1) := by decide +kernel
theorem dX2_best_28 : decode cX2_best 28 = .ok (.getfield 32, 3) := by decide +kernel
theorem dX2_best_31 : decode cX2_best 31 = .ok (.ifCond .gt 6, 3) := by decide +kernel
theorem dX2_best_34 : decode cX2_best 34 = .ok (.bipush (-6), 2) := by decide +kernel
theorem dX2_best_36 : decode cX2_best 36 = .ok (.ireturn, 1) := by decide +kernel
theorem dX2_best_37 : decode cX2_best 37 = .ok (.aload_n 3, 1) := by decide +kernel
theorem dX2_best_38 : decode cX2_best 38 = .ok (.iload_n 2, 1) := by decide +kernel
theorem dX2_best_39 : decode cX2_best 39 = .ok (.invokevirtual 116, 3) := by decide +kernel
theorem dX2_best_42 : decode cX2_best 42 = .ok (.ireturn, 1) := by decide +kernel
set_option maxRecDepth 20000 in
theorem ggX2_same_X1_layerOf : GoodIn wsX2_same wsX1_layerOf := goodIn_r _ [6, 7, 8, 9, 10, 52] (by decide +kernel) (by decide +kernel)
set_option maxRecDepth 20000 in
theorem gX2_same_X1_layerOf : GoodIn wsX2_same (wsV RX2 24 RX1 yX1_layerOf wsX1_layerOf) := goodIn_app (goodIn_of _ (by decide +kernel)) ggX2_same_X1_layerOf
set_option maxRecDepth 20000 in
theorem ggX2_same_X0_coverParts : GoodIn wsX2_same wsX0_coverParts := goodIn_r _ [15, 16, 17, 18, 19, 20, 21, 22, 23, 24, 25, 26, 27, 28, 14, 29, 30, 31, 32, 33, 34, 35, 36, 37, 38, 39, 40, 41, 42, 43, 44, 45, 46, 47, 48, 53, 54, 55, 56] (by decide +kernel) (by decide +kernel)
set_option maxRecDepth 20000 in
theorem gX2_same_X0_coverParts : GoodIn wsX2_same (wsV RX2 94 RX0 yX0_coverParts wsX0_coverParts) := goodIn_app (goodIn_of _ (by decide +kernel)) ggX2_same_X0_coverParts
theorem dX2_same_0 : decode cX2_same 0 = .ok (.aload_n 0, 1) := by decide +kernel
theorem dX2_same_1 : decode cX2_same 1 = .ok (.getfield 12, 3) := by decide +kernel
theorem dX2_same_4 : decode cX2_same 4 = .ok (.iload_n 1, 1) := by decide +kernel
theorem dX2_same_5 : decode cX2_same 5 = .ok (.invokevirtual 24, 3) := by decide +kernel
theorem dX2_same_8 : decode cX2_same 8 = .ok (.astore_n 3, 1) := by decide +kernel
theorem dX2_same_9 : decode cX2_same 9 = .ok (.aload_n 0, 1) := by decide +kernel
theorem dX2_same_10 : decode cX2_same 10 = .ok (.getfield 12, 3) := by decide +kernel
theorem dX2_same_13 : decode cX2_same 13 = .ok (.iload_n 2, 1) := by decide +kernel
theorem dX2_same_14 : decode cX2_same 14 = .ok (.invokevirtual 24, 3) := by decide +kernel
theorem dX2_same_17 : decode cX2_same 17 = .ok (.astore 4, 2) := by decide +kernel
theorem dX2_same_19 : decode cX2_same 19 = .ok (.aload_n 3, 1) := by decide +kernel
theorem dX2_same_20 : decode cX2_same 20 = .ok (.ifnull 8, 3) := by decide +kernel
theorem dX2_same_23 : decode cX2_same 23 = .ok (.aload 4, 2) := by decide +kernel
theorem dX2_same_25 : decode cX2_same 25 = .ok (.ifnonnull 5, 3) := by decide +kernel
theorem dX2_same_28 : decode cX2_same 28 = .ok (.iconst (-1), 1) := by decide +kernel
theorem dX2_same_29 : decode cX2_same 29 = .ok (.ireturn, 1) := by decide +kernel
theorem dX2_same_30 : decode cX2_same 30 = .ok (.iconst 0, 1) := by decide +kernel
theorem dX2_same_31 : decode cX2_same 31 = .ok (.istore 5, 2) := by decide +kernel
theorem dX2_same_33 : decode cX2_same 33 = .ok (.iconst 0, 1) := by decide +kernel
theorem dX2_same_34 : decode cX2_same 34 = .ok (.istore 6, 2) := by decide +kernel
theorem dX2_same_36 : decode cX2_same 36 = .ok (.iload 6, 2) := by decide +kernel
theorem dX2_same_38 : decode cX2_same 38 = .ok (.bipush 16, 2) := by decide +kernel
theorem dX2_same_40 : decode cX2_same 40 = .ok (.if_icmp .ge 39, 3) := by decide +kernel
theorem dX2_same_43 : decode cX2_same 43 = .ok (.aload_n 3, 1) := by decide +kernel
theorem dX2_same_44 : decode cX2_same 44 = .ok (.iload 6, 2) := by decide +kernel
theorem dX2_same_46 : decode cX2_same 46 = .ok (.iconst 0, 1) := by decide +kernel
theorem dX2_same_47 : decode cX2_same 47 = .ok (.iconst 0, 1) := by decide +kernel
theorem dX2_same_48 : decode cX2_same 48 = .ok (.invokevirtual 94, 3) := by decide +kernel
theorem dX2_same_51 : decode cX2_same 51 = .ok (.aload 4, 2) := by decide +kernel
theorem dX2_same_53 : decode cX2_same 53 = .ok (.iload 6, 2) := by decide +kernel
theorem dX2_same_55 : decode cX2_same 55 = .ok (.iconst 0, 1) := by decide +kernel
theorem dX2_same_56 : decode cX2_same 56 = .ok (.iconst 0, 1) := by decide +kernel
theorem dX2_same_57 : decode cX2_same 57 = .ok (.invokevirtual 94, 3) := by decide +kernel
theorem dX2_same_60 : decode cX2_same 60 = .ok (.lcmp, 1) := by decide +kernel
theorem dX2_same_61 : decode cX2_same 61 = .ok (.ifCond .ne 12, 3) := by decide +kernel
theorem dX2_same_64 : decode cX2_same 64 = .ok (.iload 5, 2) := by decide +kernel
theorem dX2_same_66 : decode cX2_same 66 = .ok (.iconst 1, 1) := by decide +kernel
theorem dX2_same_67 : decode cX2_same 67 = .ok (.iload 6, 2) := by decide +kernel
theorem dX2_same_69 : decode cX2_same 69 = .ok (.ishl, 1) := by decide +kernel
theorem dX2_same_70 : decode cX2_same 70 = .ok (.ior, 1) := by decide +kernel
theorem dX2_same_71 : decode cX2_same 71 = .ok (.istore 5, 2) := by decide +kernel
theorem dX2_same_73 : decode cX2_same 73 = .ok (.iinc 6 1, 3) := by decide +kernel
theorem dX2_same_76 : decode cX2_same 76 = .ok (.goto (-40), 3) := by decide +kernel
theorem dX2_same_79 : decode cX2_same 79 = .ok (.iload 5, 2) := by decide +kernel
theorem dX2_same_81 : decode cX2_same 81 = .ok (.ireturn, 1) := by decide +kernel
set_option maxRecDepth 20000 in
theorem ggX2_image_X2_within : GoodIn wsX2_image wsX2_within := goodIn_r _ [7] (by decide +kernel) (by decide +kernel)
set_option maxRecDepth 20000 in
theorem gX2_image_X2_within : GoodIn wsX2_image (va_wsS RX2 51 yX2_within wsX2_within) := goodIn_app (goodIn_of _ (by decide +kernel)) ggX2_image_X2_within
set_option maxRecDepth 20000 in
theorem ggX2_image_X1_copyFrom : GoodIn wsX2_image wsX1_copyFrom := goodIn_r _ [12, 13, 14, 15, 16, 17, 18, 19, 20, 21, 22, 26, 27, 28, 29, 30] (by decide +kernel) (by decide +kernel)
set_option maxRecDepth 20000 in
theorem gX2_image_X1_copyFrom : GoodIn wsX2_image (wsV RX2 120 RX1 yX1_copyFrom wsX1_copyFrom) := goodIn_app (goodIn_of _ (by decide +kernel)) ggX2_image_X1_copyFrom
theorem dX2_image_0 : decode cX2_image 0 = .ok (.iload_n 1, 1) := by decide +kernel
theorem dX2_image_1 : decode cX2_image 1 = .ok (.iconst 0, 1) := by decide +kernel
theorem dX2_image_2 : decode cX2_image 2 = .ok (.iconst 1, 1) := by decide +kernel
theorem dX2_image_3 : decode cX2_image 3 = .ok (.invokestatic 51, 3) := by decide +kernel
theorem dX2_image_6 : decode cX2_image 6 = .ok (.ifCond .ne 6, 3) := by decide +kernel
theorem dX2_image_9 : decode cX2_image 9 = .ok (.bipush (-2), 2) := by decide +kernel
theorem dX2_image_11 : decode cX2_image 11 = .ok (.ireturn, 1) := by decide +kernel
theorem dX2_image_12 : decode cX2_image 12 = .ok (.aload_n 0, 1) := by decide +kernel
theorem dX2_image_13 : decode cX2_image 13 = .ok (.getfield 16, 3) := by decide +kernel
theorem dX2_image_16 : decode cX2_image 16 = .ok (.iload_n 1, 1) := by decide +kernel
theorem dX2_image_17 : decode cX2_image 17 = .ok (.aaload, 1) := by decide +kernel
theorem dX2_image_18 : decode cX2_image 18 = .ok (.aload_n 0, 1) := by decide +kernel
theorem dX2_image_19 : decode cX2_image 19 = .ok (.getfield 12, 3) := by decide +kernel
theorem dX2_image_22 : decode cX2_image 22 = .ok (.invokevirtual 120, 3) := by decide +kernel
theorem dX2_image_25 : decode cX2_image 25 = .ok (.aload_n 0, 1) := by decide +kernel
theorem dX2_image_26 : decode cX2_image 26 = .ok (.dup, 1) := by decide +kernel
theorem dX2_image_27 : decode cX2_image 27 = .ok (.getfield 20, 3) := by decide +kernel
theorem dX2_image_30 : decode cX2_image 30 = .ok (.iconst 1, 1) := by decide +kernel
theorem dX2_image_31 : decode cX2_image 31 = .ok (.iload_n 1, 1) := by decide +kernel
theorem dX2_image_32 : decode cX2_image 32 = .ok (.ishl, 1) := by decide +kernel
theorem dX2_image_33 : decode cX2_image 33 = .ok (.ior, 1) := by decide +kernel
theorem dX2_image_34 : decode cX2_image 34 = .ok (.putfield 20, 3) := by decide +kernel
theorem dX2_image_37 : decode cX2_image 37 = .ok (.iconst 1, 1) := by decide +kernel
theorem dX2_image_38 : decode cX2_image 38 = .ok (.ireturn, 1) := by decide +kernel
set_option maxRecDepth 20000 in
theorem ggX2_restore_X2_within : GoodIn wsX2_restore wsX2_within := goodIn_r _ [7] (by decide +kernel) (by decide +kernel)
set_option maxRecDepth 20000 in
theorem gX2_restore_X2_within : GoodIn wsX2_restore (va_wsS RX2 51 yX2_within wsX2_within) := goodIn_app (goodIn_of _ (by decide +kernel)) ggX2_restore_X2_within
set_option maxRecDepth 20000 in
theorem ggX2_restore_X1_copyFrom : GoodIn wsX2_restore wsX1_copyFrom := goodIn_r _ [12, 13, 14, 15, 16, 17, 18, 19, 20, 21, 22, 26, 27, 28, 29, 30] (by decide +kernel) (by decide +kernel)
set_option maxRecDepth 20000 in
theorem gX2_restore_X1_copyFrom : GoodIn wsX2_restore (wsV RX2 120 RX1 yX1_copyFrom wsX1_copyFrom) := goodIn_app (goodIn_of _ (by decide +kernel)) ggX2_restore_X1_copyFrom
theorem dX2_restore_0 : decode cX2_restore 0 = .ok (.iload_n 1, 1) := by decide +kernel
theorem dX2_restore_1 : decode cX2_restore 1 = .ok (.iconst 0, 1) := by decide +kernel
theorem dX2_restore_2 : decode cX2_restore 2 = .ok (.iconst 1, 1) := by decide +kernel
theorem dX2_restore_3 : decode cX2_restore 3 = .ok (.invokestatic 51, 3) := by decide +kernel
theorem dX2_restore_6 : decode cX2_restore 6 = .ok (.ifCond .ne 6, 3) := by decide +kernel
theorem dX2_restore_9 : decode cX2_restore 9 = .ok (.bipush (-2), 2) := by decide +kernel
theorem dX2_restore_11 : decode cX2_restore 11 = .ok (.ireturn, 1) := by decide +kernel
theorem dX2_restore_12 : decode cX2_restore 12 = .ok (.aload_n 0, 1) := by decide +kernel
theorem dX2_restore_13 : decode cX2_restore 13 = .ok (.getfield 20, 3) := by decide +kernel
theorem dX2_restore_16 : decode cX2_restore 16 = .ok (.iload_n 1, 1) := by decide +kernel
theorem dX2_restore_17 : decode cX2_restore 17 = .ok (.ishr, 1) := by decide +kernel
theorem dX2_restore_18 : decode cX2_restore 18 = .ok (.iconst 1, 1) := by decide +kernel
theorem dX2_restore_19 : decode cX2_restore 19 = .ok (.iand, 1) := by decide +kernel
theorem dX2_restore_20 : decode cX2_restore 20 = .ok (.ifCond .ne 6, 3) := by decide +kernel
theorem dX2_restore_23 : decode cX2_restore 23 = .ok (.bipush (-3), 2) := by decide +kernel
theorem dX2_restore_25 : decode cX2_restore 25 = .ok (.ireturn, 1) := by decide +kernel
theorem dX2_restore_26 : decode cX2_restore 26 = .ok (.aload_n 0, 1) := by decide +kernel
theorem dX2_restore_27 : decode cX2_restore 27 = .ok (.getfield 12, 3) := by decide +kernel
theorem dX2_restore_30 : decode cX2_restore 30 = .ok (.aload_n 0, 1) := by decide +kernel
theorem dX2_restore_31 : decode cX2_restore 31 = .ok (.getfield 16, 3) := by decide +kernel
theorem dX2_restore_34 : decode cX2_restore 34 = .ok (.iload_n 1, 1) := by decide +kernel
theorem dX2_restore_35 : decode cX2_restore 35 = .ok (.aaload, 1) := by decide +kernel
theorem dX2_restore_36 : decode cX2_restore 36 = .ok (.invokevirtual 120, 3) := by decide +kernel
theorem dX2_restore_39 : decode cX2_restore 39 = .ok (.iconst 1, 1) := by decide +kernel
theorem dX2_restore_40 : decode cX2_restore 40 = .ok (.ireturn, 1) := by decide +kernel
set_option maxRecDepth 20000 in
theorem ggX2_count_X1_pointsOfAll : GoodIn wsX2_count wsX1_pointsOfAll := goodIn_r _ [7, 8, 23, 19, 20, 21, 22] (by decide +kernel) (by decide +kernel)
set_option maxRecDepth 20000 in
theorem gX2_count_X1_pointsOfAll : GoodIn wsX2_count (wsV RX2 124 RX1 yX1_pointsOfAll wsX1_pointsOfAll) := goodIn_app (goodIn_of _ (by decide +kernel)) ggX2_count_X1_pointsOfAll
set_option maxRecDepth 20000 in
theorem ggX2_count_X1_layerOf : GoodIn wsX2_count wsX1_layerOf := goodIn_r _ [12, 8, 13, 14, 15, 23] (by decide +kernel) (by decide +kernel)
set_option maxRecDepth 20000 in
theorem gX2_count_X1_layerOf : GoodIn wsX2_count (wsV RX2 24 RX1 yX1_layerOf wsX1_layerOf) := goodIn_app (goodIn_of _ (by decide +kernel)) ggX2_count_X1_layerOf
theorem dX2_count_0 : decode cX2_count 0 = .ok (.iload_n 1, 1) := by decide +kernel
theorem dX2_count_1 : decode cX2_count 1 = .ok (.iconst 3, 1) := by decide +kernel
theorem dX2_count_2 : decode cX2_count 2 = .ok (.if_icmp .ne 11, 3) := by decide +kernel
theorem dX2_count_5 : decode cX2_count 5 = .ok (.aload_n 0, 1) := by decide +kernel
theorem dX2_count_6 : decode cX2_count 6 = .ok (.getfield 12, 3) := by decide +kernel
theorem dX2_count_9 : decode cX2_count 9 = .ok (.invokevirtual 124, 3) := by decide +kernel
theorem dX2_count_12 : decode cX2_count 12 = .ok (.ireturn, 1) := by decide +kernel
theorem dX2_count_13 : decode cX2_count 13 = .ok (.iload_n 1, 1) := by decide +kernel
theorem dX2_count_14 : decode cX2_count 14 = .ok (.iconst 4, 1) := by decide +kernel
theorem dX2_count_15 : decode cX2_count 15 = .ok (.if_icmp .ne 8, 3) := by decide +kernel
theorem dX2_count_18 : decode cX2_count 18 = .ok (.aload_n 0, 1) := by decide +kernel
theorem dX2_count_19 : decode cX2_count 19 = .ok (.getfield 20, 3) := by decide +kernel
theorem dX2_count_22 : decode cX2_count 22 = .ok (.ireturn, 1) := by decide +kernel
theorem dX2_count_23 : decode cX2_count 23 = .ok (.aload_n 0, 1) := by decide +kernel
theorem dX2_count_24 : decode cX2_count 24 = .ok (.getfield 12, 3) := by decide +kernel
theorem dX2_count_27 : decode cX2_count 27 = .ok (.iload_n 1, 1) := by decide +kernel
theorem dX2_count_28 : decode cX2_count 28 = .ok (.invokevirtual 24, 3) := by decide +kernel
theorem dX2_count_31 : decode cX2_count 31 = .ok (.astore_n 2, 1) := by decide +kernel
theorem dX2_count_32 : decode cX2_count 32 = .ok (.aload_n 2, 1) := by decide +kernel
theorem dX2_count_33 : decode cX2_count 33 = .ok (.ifnull 8, 3) := by decide +kernel
theorem dX2_count_36 : decode cX2_count 36 = .ok (.aload_n 2, 1) := by decide +kernel
theorem dX2_count_37 : decode cX2_count 37 = .ok (.getfield 32, 3) := by decide +kernel
theorem dX2_count_40 : decode cX2_count 40 = .ok (.ireturn, 1) := by decide +kernel
theorem dX2_count_41 : decode cX2_count 41 = .ok (.aload_n 0, 1) := by decide +kernel
theorem dX2_count_42 : decode cX2_count 42 = .ok (.getfield 12, 3) := by decide +kernel
theorem dX2_count_45 : decode cX2_count 45 = .ok (.iload_n 1, 1) := by decide +kernel
theorem dX2_count_46 : decode cX2_count 46 = .ok (.bipush 10, 2) := by decide +kernel
theorem dX2_count_48 : decode cX2_count 48 = .ok (.isub, 1) := by decide +kernel
theorem dX2_count_49 : decode cX2_count 49 = .ok (.invokevirtual 24, 3) := by decide +kernel
theorem dX2_count_52 : decode cX2_count 52 = .ok (.astore_n 3, 1) := by decide +kernel
theorem dX2_count_53 : decode cX2_count 53 = .ok (.aload_n 3, 1) := by decide +kernel
theorem dX2_count_54 : decode cX2_count 54 = .ok (.ifnonnull 8, 3) := by decide +kernel
theorem dX2_count_57 : decode cX2_count 57 = .ok (.bipush (-2), 2) := by decide +kernel
theorem dX2_count_59 : decode cX2_count 59 = .ok (.goto 7, 3) := by decide +kernel
theorem dX2_count_62 : decode cX2_count 62 = .ok (.aload_n 3, 1) := by decide +kernel
theorem dX2_count_63 : decode cX2_count 63 = .ok (.getfield 55, 3) := by decide +kernel
theorem dX2_count_66 : decode cX2_count 66 = .ok (.ireturn, 1) := by decide +kernel
theorem dX2_within_0 : decode cX2_within 0 = .ok (.iload_n 0, 1) := by decide +kernel
theorem dX2_within_1 : decode cX2_within 1 = .ok (.iload_n 1, 1) := by decide +kernel
theorem dX2_within_2 : decode cX2_within 2 = .ok (.if_icmp .lt 12, 3) := by decide +kernel
theorem dX2_within_5 : decode cX2_within 5 = .ok (.iload_n 0, 1) := by decide +kernel
theorem dX2_within_6 : decode cX2_within 6 = .ok (.iload_n 2, 1) := by decide +kernel
theorem dX2_within_7 : decode cX2_within 7 = .ok (.if_icmp .gt 7, 3) := by decide +kernel
theorem dX2_within_10 : decode cX2_within 10 = .ok (.iconst 1, 1) := by decide +kernel
theorem dX2_within_11 : decode cX2_within 11 = .ok (.goto 4, 3) := by decide +kernel
theorem dX2_within_14 : decode cX2_within 14 = .ok (.iconst 0, 1) := by decide +kernel
theorem dX2_within_15 : decode cX2_within 15 = .ok (.ireturn, 1) := by decide +kernel
set_option maxRecDepth 20000 in
theorem ggX2_inField_X2_within : GoodIn wsX2_inField wsX2_within := goodIn_r _ [4] (by decide +kernel) (by decide +kernel)
set_option maxRecDepth 20000 in
theorem gX2_inField_X2_within : GoodIn wsX2_inField (va_wsS RX2 51 yX2_within wsX2_within) := goodIn_app (goodIn_of _ (by decide +kernel)) ggX2_inField_X2_within
theorem dX2_inField_0 : decode cX2_inField 0 = .ok (.iload_n 0, 1) := by decide +kernel
theorem dX2_inField_1 : decode cX2_inField 1 = .ok (.iconst 0, 1) := by decide +kernel
theorem dX2_inField_2 : decode cX2_inField 2 = .ok (.bipush 12, 2) := by decide +kernel
theorem dX2_inField_4 : decode cX2_inField 4 = .ok (.invokestatic 51, 3) := by decide +kernel
theorem dX2_inField_7 : decode cX2_inField 7 = .ok (.ireturn, 1) := by decide +kernel
set_option maxRecDepth 20000 in
theorem ggX2_isDot_X2_within : GoodIn wsX2_isDot wsX2_within := goodIn_r _ [4] (by decide +kernel) (by decide +kernel)
set_option maxRecDepth 20000 in
theorem gX2_isDot_X2_within : GoodIn wsX2_isDot (va_wsS RX2 51 yX2_within wsX2_within) := goodIn_app (goodIn_of _ (by decide +kernel)) ggX2_isDot_X2_within
theorem dX2_isDot_0 : decode cX2_isDot 0 = .ok (.iload_n 0, 1) := by decide +kernel
theorem dX2_isDot_1 : decode cX2_isDot 1 = .ok (.iconst 0, 1) := by decide +kernel
theorem dX2_isDot_2 : decode cX2_isDot 2 = .ok (.bipush 15, 2) := by decide +kernel
theorem dX2_isDot_4 : decode cX2_isDot 4 = .ok (.invokestatic 51, 3) := by decide +kernel
theorem dX2_isDot_7 : decode cX2_isDot 7 = .ok (.ireturn, 1) := by decide +kernel
set_option maxRecDepth 20000 in
theorem ggX2_lowestTerms_X2_greatestDivisor : GoodIn wsX2_lowestTerms wsX2_greatestDivisor := goodIn_r _ [8] (by decide +kernel) (by decide +kernel)
set_option maxRecDepth 20000 in
theorem gX2_lowestTerms_X2_greatestDivisor : GoodIn wsX2_lowestTerms (va_wsS RX2 133 yX2_greatestDivisor wsX2_greatestDivisor) := goodIn_app (goodIn_of _ (by decide +kernel)) ggX2_lowestTerms_X2_greatestDivisor
theorem dX2_lowestTerms_0 : decode cX2_lowestTerms 0 = .ok (.lload_n 0, 1) := by decide +kernel
theorem dX2_lowestTerms_1 : decode cX2_lowestTerms 1 = .ok (.invokestatic 127, 3) := by decide +kernel
theorem dX2_lowestTerms_4 : decode cX2_lowestTerms 4 = .ok (.lload_n 2, 1) := by decide +kernel
theorem dX2_lowestTerms_5 : decode cX2_lowestTerms 5 = .ok (.invokestatic 133, 3) := by decide +kernel
theorem dX2_lowestTerms_8 : decode cX2_lowestTerms 8 = .ok (.lstore 5, 2) := by decide +kernel
theorem dX2_lowestTerms_10 : decode cX2_lowestTerms 10 = .ok (.lload 5, 2) := by decide +kernel
theorem dX2_lowestTerms_12 : decode cX2_lowestTerms 12 = .ok (.lconst 0, 1) := by decide +kernel
theorem dX2_lowestTerms_13 : decode cX2_lowestTerms 13 = .ok (.lcmp, 1) := by decide +kernel
theorem dX2_lowestTerms_14 : decode cX2_lowestTerms 14 = .ok (.ifCond .gt 5, 3) := by decide +kernel
theorem dX2_lowestTerms_17 : decode cX2_lowestTerms 17 = .ok (.lconst 0, 1) := by decide +kernel
theorem dX2_lowestTerms_18 : decode cX2_lowestTerms 18 = .ok (.lreturn, 1) := by decide +kernel
theorem dX2_lowestTerms_19 : decode cX2_lowestTerms 19 = .ok (.iload 4, 2) := by decide +kernel
theorem dX2_lowestTerms_21 : decode cX2_lowestTerms 21 = .ok (.ifCond .ne 7, 3) := by decide +kernel
theorem dX2_lowestTerms_24 : decode cX2_lowestTerms 24 = .ok (.lload_n 0, 1) := by decide +kernel
theorem dX2_lowestTerms_25 : decode cX2_lowestTerms 25 = .ok (.goto 4, 3) := by decide +kernel
theorem dX2_lowestTerms_28 : decode cX2_lowestTerms 28 = .ok (.lload_n 2, 1) := by decide +kernel
theorem dX2_lowestTerms_29 : decode cX2_lowestTerms 29 = .ok (.lload 5, 2) := by decide +kernel
theorem dX2_lowestTerms_31 : decode cX2_lowestTerms 31 = .ok (.ldiv, 1) := by decide +kernel
theorem dX2_lowestTerms_32 : decode cX2_lowestTerms 32 = .ok (.lreturn, 1) := by decide +kernel
theorem dX2_greatestDivisor_0 : decode cX2_greatestDivisor 0 = .ok (.lload_n 0, 1) := by decide +kernel
theorem dX2_greatestDivisor_1 : decode cX2_greatestDivisor 1 = .ok (.lstore 4, 2) := by decide +kernel
theorem dX2_greatestDivisor_3 : decode cX2_greatestDivisor 3 = .ok (.lload_n 2, 1) := by decide +kernel
theorem dX2_greatestDivisor_4 : decode cX2_greatestDivisor 4 = .ok (.lstore 6, 2) := by decide +kernel
theorem dX2_greatestDivisor_6 : decode cX2_greatestDivisor 6 = .ok (.iconst 0, 1) := by decide +kernel
theorem dX2_greatestDivisor_7 : decode cX2_greatestDivisor 7 = .ok (.istore 8, 2) := by decide +kernel
theorem dX2_greatestDivisor_9 : decode cX2_greatestDivisor 9 = .ok (.iload 8, 2) := by decide +kernel
theorem dX2_greatestDivisor_11 : decode cX2_greatestDivisor 11 = .ok (.bipush 100, 2) := by decide +kernel
theorem dX2_greatestDivisor_13 : decode cX2_greatestDivisor 13 = .ok (.if_icmp .ge 31, 3) := by decide +kernel
theorem dX2_greatestDivisor_16 : decode cX2_greatestDivisor 16 = .ok (.lload 6, 2) := by decide +kernel
theorem dX2_greatestDivisor_18 : decode cX2_greatestDivisor 18 = .ok (.lconst 0, 1) := by decide +kernel
theorem dX2_greatestDivisor_19 : decode cX2_greatestDivisor 19 = .ok (.lcmp, 1) := by decide +kernel
theorem dX2_greatestDivisor_20 : decode cX2_greatestDivisor 20 = .ok (.ifCond .eq 24, 3) := by decide +kernel
theorem dX2_greatestDivisor_23 : decode cX2_greatestDivisor 23 = .ok (.lload 4, 2) := by decide +kernel
theorem dX2_greatestDivisor_25 : decode cX2_greatestDivisor 25 = .ok (.lload 6, 2) := by decide +kernel
theorem dX2_greatestDivisor_27 : decode cX2_greatestDivisor 27 = .ok (.lrem, 1) := by decide +kernel
theorem dX2_greatestDivisor_28 : decode cX2_greatestDivisor 28 = .ok (.lstore 9, 2) := by decide +kernel
theorem dX2_greatestDivisor_30 : decode cX2_greatestDivisor 30 = .ok (.lload 6, 2) := by decide +kernel
theorem dX2_greatestDivisor_32 : decode cX2_greatestDivisor 32 = .ok (.lstore 4, 2) := by decide +kernel
theorem dX2_greatestDivisor_34 : decode cX2_greatestDivisor 34 = .ok (.lload 9, 2) := by decide +kernel
theorem dX2_greatestDivisor_36 : decode cX2_greatestDivisor 36 = .ok (.lstore 6, 2) := by decide +kernel
theorem dX2_greatestDivisor_38 : decode cX2_greatestDivisor 38 = .ok (.iinc 8 1, 3) := by decide +kernel
theorem dX2_greatestDivisor_41 : decode cX2_greatestDivisor 41 = .ok (.goto (-32), 3) := by decide +kernel
theorem dX2_greatestDivisor_44 : decode cX2_greatestDivisor 44 = .ok (.lload 4, 2) := by decide +kernel
theorem dX2_greatestDivisor_46 : decode cX2_greatestDivisor 46 = .ok (.lreturn, 1) := by decide +kernel
theorem dX3_init_0 : decode cX3_init 0 = .ok (.aload_n 0, 1) := by decide +kernel
theorem dX3_init_1 : decode cX3_init 1 = .ok (.invokespecial 1, 3) := by decide +kernel
theorem dX3_init_4 : decode cX3_init 4 = .ok (.aload_n 0, 1) := by decide +kernel
theorem dX3_init_5 : decode cX3_init 5 = .ok (.bipush 54, 2) := by decide +kernel
theorem dX3_init_7 : decode cX3_init 7 = .ok (.newarray .int, 2) := by decide +kernel
theorem dX3_init_9 : decode cX3_init 9 = .ok (.putfield 7, 3) := by decide +kernel
theorem dX3_init_12 : decode cX3_init 12 = .ok (.aload_n 0, 1) := by decide +kernel
theorem dX3_init_13 : decode cX3_init 13 = .ok (.bipush 108, 2) := by decide +kernel
theorem dX3_init_15 : decode cX3_init 15 = .ok (.newarray .int, 2) := by decide +kernel
theorem dX3_init_17 : decode cX3_init 17 = .ok (.putfield 13, 3) := by decide +kernel
theorem dX3_init_20 : decode cX3_init 20 = .ok (.aload_n 0, 1) := by decide +kernel
theorem dX3_init_21 : decode cX3_init 21 = .ok (.iconst 2, 1) := by decide +kernel
theorem dX3_init_22 : decode cX3_init 22 = .ok (.newarray .boolean, 2) := by decide +kernel
theorem dX3_init_24 : decode cX3_init 24 = .ok (.putfield 16, 3) := by decide +kernel
theorem dX3_init_27 : decode cX3_init 27 = .ok (.aload_n 0, 1) := by decide +kernel
theorem dX3_init_28 : decode cX3_init 28 = .ok (.bipush 8, 2) := by decide +kernel
theorem dX3_init_30 : decode cX3_init 30 = .ok (.newarray .int, 2) := by decide +kernel
theorem dX3_init_32 : decode cX3_init 32 = .ok (.putfield 20, 3) := by decide +kernel
theorem dX3_init_35 : decode cX3_init 35 = .ok (.aload_n 0, 1) := by decide +kernel
theorem dX3_init_36 : decode cX3_init 36 = .ok (.bipush 8, 2) := by decide +kernel
theorem dX3_init_38 : decode cX3_init 38 = .ok (.newarray .int, 2) := by decide +kernel
theorem dX3_init_40 : decode cX3_init 40 = .ok (.putfield 23, 3) := by decide +kernel
theorem dX3_init_43 : decode cX3_init 43 = .ok (.aload_n 0, 1) := by decide +kernel
theorem dX3_init_44 : decode cX3_init 44 = .ok (.sipush 300, 3) := by decide +kernel
theorem dX3_init_47 : decode cX3_init 47 = .ok (.newarray .long, 2) := by decide +kernel
theorem dX3_init_49 : decode cX3_init 49 = .ok (.putfield 26, 3) := by decide +kernel
theorem dX3_init_52 : decode cX3_init 52 = .ok (.aload_n 0, 1) := by decide +kernel
theorem dX3_init_53 : decode cX3_init 53 = .ok (.sipush 300, 3) := by decide +kernel
theorem dX3_init_56 : decode cX3_init 56 = .ok (.newarray .long, 2) := by decide +kernel
theorem dX3_init_58 : decode cX3_init 58 = .ok (.putfield 30, 3) := by decide +kernel
theorem dX3_init_61 : decode cX3_init 61 = .ok (.aload_n 0, 1) := by decide +kernel
theorem dX3_init_62 : decode cX3_init 62 = .ok (.sipush 300, 3) := by decide +kernel
theorem dX3_init_65 : decode cX3_init 65 = .ok (.newarray .long, 2) := by decide +kernel
theorem dX3_init_67 : decode cX3_init 67 = .ok (.putfield 33, 3) := by decide +kernel
theorem dX3_init_70 : decode cX3_init 70 = .ok (.aload_n 0, 1) := by decide +kernel
theorem dX3_init_71 : decode cX3_init 71 = .ok (.sipush 300, 3) := by decide +kernel
theorem dX3_init_74 : decode cX3_init 74 = .ok (.newarray .long, 2) := by decide +kernel
theorem dX3_init_76 : decode cX3_init 76 = .ok (.putfield 36, 3) := by decide +kernel
theorem dX3_init_79 : decode cX3_init 79 = .ok (.return_, 1) := by decide +kernel
theorem dX3_in_0 : decode cX3_in 0 = .ok (.iload_n 0, 1) := by decide +kernel
theorem dX3_in_1 : decode cX3_in 1 = .ok (.iload_n 1, 1) := by decide +kernel
theorem dX3_in_2 : decode cX3_in 2 = .ok (.if_icmp .lt 12, 3) := by decide +kernel
theorem dX3_in_5 : decode cX3_in 5 = .ok (.iload_n 0, 1) := by decide +kernel
theorem dX3_in_6 : decode cX3_in 6 = .ok (.iload_n 2, 1) := by decide +kernel
theorem dX3_in_7 : decode cX3_in 7 = .ok (.if_icmp .gt 7, 3) := by decide +kernel
theorem dX3_in_10 : decode cX3_in 10 = .ok (.iconst 1, 1) := by decide +kernel
theorem dX3_in_11 : decode cX3_in 11 = .ok (.goto 4, 3) := by decide +kernel
theorem dX3_in_14 : decode cX3_in 14 = .ok (.iconst 0, 1) := by decide +kernel
theorem dX3_in_15 : decode cX3_in 15 = .ok (.ireturn, 1) := by decide +kernel
set_option maxRecDepth 20000 in
theorem ggX3_isLayer_X3_in : GoodIn wsX3_isLayer wsX3_in := goodIn_r _ [4] (by decide +kernel) (by decide +kernel)
set_option maxRecDepth 20000 in
theorem gX3_isLayer_X3_in : GoodIn wsX3_isLayer (va_wsS RX3 39 yX3_in wsX3_in) := goodIn_app (goodIn_of _ (by decide +kernel)) ggX3_isLayer_X3_in
theorem dX3_isLayer_0 : decode cX3_isLayer 0 = .ok (.iload_n 0, 1) := by decide +kernel
theorem dX3_isLayer_1 : decode cX3_isLayer 1 = .ok (.iconst 0, 1) := by decide +kernel
theorem dX3_isLayer_2 : decode cX3_isLayer 2 = .ok (.iconst 2, 1) := by decide +kernel
theorem dX3_isLayer_3 : decode cX3_isLayer 3 = .ok (.invokestatic 39, 3) := by decide +kernel
theorem dX3_isLayer_6 : decode cX3_isLayer 6 = .ok (.ireturn, 1) := by decide +kernel
set_option maxRecDepth 20000 in
theorem ggX3_isDot_X3_in : GoodIn wsX3_isDot wsX3_in := goodIn_r _ [4] (by decide +kernel) (by decide +kernel)
set_option maxRecDepth 20000 in
theorem gX3_isDot_X3_in : GoodIn wsX3_isDot (va_wsS RX3 39 yX3_in wsX3_in) := goodIn_app (goodIn_of _ (by decide +kernel)) ggX3_isDot_X3_in
theorem dX3_isDot_0 : decode cX3_isDot 0 = .ok (.iload_n 0, 1) := by decide +kernel
theorem dX3_isDot_1 : decode cX3_isDot 1 = .ok (.iconst 0, 1) := by decide +kernel
theorem dX3_isDot_2 : decode cX3_isDot 2 = .ok (.bipush 15, 2) := by decide +kernel
theorem dX3_isDot_4 : decode cX3_isDot 4 = .ok (.invokestatic 39, 3) := by decide +kernel
theorem dX3_isDot_7 : decode cX3_isDot 7 = .ok (.ireturn, 1) := by decide +kernel
set_option maxRecDepth 20000 in
theorem ggX3_isHere_X3_in : GoodIn wsX3_isHere wsX3_in := goodIn_r _ [4] (by decide +kernel) (by decide +kernel)
set_option maxRecDepth 20000 in
theorem gX3_isHere_X3_in : GoodIn wsX3_isHere (va_wsS RX3 39 yX3_in wsX3_in) := goodIn_app (goodIn_of _ (by decide +kernel)) ggX3_isHere_X3_in
theorem dX3_isHere_0 : decode cX3_isHere 0 = .ok (.iload_n 0, 1) := by decide +kernel
theorem dX3_isHere_1 : decode cX3_isHere 1 = .ok (.iconst 0, 1) := by decide +kernel
theorem dX3_isHere_2 : decode cX3_isHere 2 = .ok (.bipush 12, 2) := by decide +kernel
theorem dX3_isHere_4 : decode cX3_isHere 4 = .ok (.invokestatic 39, 3) := by decide +kernel
theorem dX3_isHere_7 : decode cX3_isHere 7 = .ok (.ifCond .eq 17, 3) := by decide +kernel
theorem dX3_isHere_10 : decode cX3_isHere 10 = .ok (.iload_n 1, 1) := by decide +kernel
theorem dX3_isHere_11 : decode cX3_isHere 11 = .ok (.iconst 0, 1) := by decide +kernel
theorem dX3_isHere_12 : decode cX3_isHere 12 = .ok (.bipush 12, 2) := by decide +kernel
theorem dX3_isHere_14 : decode cX3_isHere 14 = .ok (.invokestatic 39, 3) := by decide +kernel
theorem dX3_isHere_17 : decode cX3_isHere 17 = .ok (.ifCond .eq 7, 3) := by decide +kernel
theorem dX3_isHere_20 : decode cX3_isHere 20 = .ok (.iconst 1, 1) := by decide +kernel
theorem dX3_isHere_21 : decode cX3_isHere 21 = .ok (.goto 4, 3) := by decide +kernel
theorem dX3_isHere_24 : decode cX3_isHere 24 = .ok (.iconst 0, 1) := by decide +kernel
theorem dX3_isHere_25 : decode cX3_isHere 25 = .ok (.ireturn, 1) := by decide +kernel
set_option maxRecDepth 20000 in
theorem ggX3_isPoint_X3_in : GoodIn wsX3_isPoint wsX3_in := goodIn_r _ [5] (by decide +kernel) (by decide +kernel)
set_option maxRecDepth 20000 in
theorem gX3_isPoint_X3_in : GoodIn wsX3_isPoint (va_wsS RX3 39 yX3_in wsX3_in) := goodIn_app (goodIn_of _ (by decide +kernel)) ggX3_isPoint_X3_in
theorem dX3_isPoint_0 : decode cX3_isPoint 0 = .ok (.iload_n 2, 1) := by decide +kernel
theorem dX3_isPoint_1 : decode cX3_isPoint 1 = .ok (.iconst 0, 1) := by decide +kernel
theorem dX3_isPoint_2 : decode cX3_isPoint 2 = .ok (.aload_n 0, 1) := by decide +kernel
theorem dX3_isPoint_3 : decode cX3_isPoint 3 = .ok (.getfield 7, 3) := by decide +kernel
theorem dX3_isPoint_6 : decode cX3_isPoint 6 = .ok (.iconst 0, 1) := by decide +kernel
theorem dX3_isPoint_7 : decode cX3_isPoint 7 = .ok (.iload_n 1, 1) := by decide +kernel
theorem dX3_isPoint_8 : decode cX3_isPoint 8 = .ok (.iadd, 1) := by decide +kernel
theorem dX3_isPoint_9 : decode cX3_isPoint 9 = .ok (.iaload, 1) := by decide +kernel
theorem dX3_isPoint_10 : decode cX3_isPoint 10 = .ok (.iconst 1, 1) := by decide +kernel
theorem dX3_isPoint_11 : decode cX3_isPoint 11 = .ok (.isub, 1) := by decide +kernel
theorem dX3_isPoint_12 : decode cX3_isPoint 12 = .ok (.invokestatic 39, 3) := by decide +kernel
theorem dX3_isPoint_15 : decode cX3_isPoint 15 = .ok (.ireturn, 1) := by decide +kernel
theorem dX3_place_0 : decode cX3_place 0 = .ok (.bipush 8, 2) := by decide +kernel
theorem dX3_place_2 : decode cX3_place 2 = .ok (.iload_n 0, 1) := by decide +kernel
theorem dX3_place_3 : decode cX3_place 3 = .ok (.imul, 1) := by decide +kernel
theorem dX3_place_4 : decode cX3_place 4 = .ok (.iload_n 1, 1) := by decide +kernel
theorem dX3_place_5 : decode cX3_place 5 = .ok (.iadd, 1) := by decide +kernel
theorem dX3_place_6 : decode cX3_place 6 = .ok (.ireturn, 1) := by decide +kernel
set_option maxRecDepth 20000 in
theorem ggX3_point_X3_isLayer : GoodIn wsX3_point wsX3_isLayer := goodIn_r _ [5, 6, 7, 4, 8] (by decide +kernel) (by decide +kernel)
set_option maxRecDepth 20000 in
theorem gX3_point_X3_isLayer : GoodIn wsX3_point (va_wsS RX3 43 yX3_isLayer wsX3_isLayer) := goodIn_app (goodIn_of _ (by decide +kernel)) ggX3_point_X3_isLayer
set_option maxRecDepth 20000 in
theorem ggX3_point_X3_isHere : GoodIn wsX3_point wsX3_isHere := goodIn_r _ [11, 6, 7, 4, 8] (by decide +kernel) (by decide +kernel)
set_option maxRecDepth 20000 in
theorem gX3_point_X3_isHere : GoodIn wsX3_point (va_wsS RX3 47 yX3_isHere wsX3_isHere) := goodIn_app (goodIn_of _ (by decide +kernel)) ggX3_point_X3_isHere
set_option maxRecDepth 20000 in
theorem ggX3_point_X3_place : GoodIn wsX3_point wsX3_place := goodIn_r _ [14] (by decide +kernel) (by decide +kernel)
set_option maxRecDepth 20000 in
theorem gX3_point_X3_place : GoodIn wsX3_point (va_wsS RX3 51 yX3_place wsX3_place) := goodIn_app (goodIn_of _ (by decide +kernel)) ggX3_point_X3_place
theorem dX3_point_0 : decode cX3_point 0 = .ok (.iload_n 1, 1) := by decide +kernel
theorem dX3_point_1 : decode cX3_point 1 = .ok (.invokestatic 43, 3) := by decide +kernel
theorem dX3_point_4 : decode cX3_point 4 = .ok (.ifCond .ne 5, 3) := by decide +kernel
theorem dX3_point_7 : decode cX3_point 7 = .ok (.iconst (-1), 1) := by decide +kernel
theorem dX3_point_8 : decode cX3_point 8 = .ok (.ireturn, 1) := by decide +kernel
theorem dX3_point_9 : decode cX3_point 9 = .ok (.iload_n 2, 1) := by decide +kernel
theorem dX3_point_10 : decode cX3_point 10 = .ok (.iload_n 3, 1) := by decide +kernel
theorem dX3_point_11 : decode cX3_point 11 = .ok (.invokestatic 47, 3) := by decide +kernel
theorem dX3_point_14 : decode cX3_point 14 = .ok (.ifCond .ne 6, 3) := by decide +kernel
theorem dX3_point_17 : decode cX3_point 17 = .ok (.bipush (-2), 2) := by decide +kernel
theorem dX3_point_19 : decode cX3_point 19 = .ok (.ireturn, 1) := by decide +kernel
theorem dX3_point_20 : decode cX3_point 20 = .ok (.aload_n 0, 1) := by decide +kernel
theorem dX3_point_21 : decode cX3_point 21 = .ok (.getfield 7, 3) := by decide +kernel
theorem dX3_point_24 : decode cX3_point 24 = .ok (.iconst 0, 1) := by decide +kernel
theorem dX3_point_25 : decode cX3_point 25 = .ok (.iload_n 1, 1) := by decide +kernel
theorem dX3_point_26 : decode cX3_point 26 = .ok (.iadd, 1) := by decide +kernel
theorem dX3_point_27 : decode cX3_point 27 = .ok (.iaload, 1) := by decide +kernel
theorem dX3_point_28 : decode cX3_point 28 = .ok (.istore 4, 2) := by decide +kernel
theorem dX3_point_30 : decode cX3_point 30 = .ok (.iload 4, 2) := by decide +kernel
theorem dX3_point_32 : decode cX3_point 32 = .ok (.bipush 8, 2) := by decide +kernel
theorem dX3_point_34 : decode cX3_point 34 = .ok (.if_icmp .ne 6, 3) := by decide +kernel
theorem dX3_point_37 : decode cX3_point 37 = .ok (.bipush (-4), 2) := by decide +kernel
theorem dX3_point_39 : decode cX3_point 39 = .ok (.ireturn, 1) := by decide +kernel
theorem dX3_point_40 : decode cX3_point 40 = .ok (.aload_n 0, 1) := by decide +kernel
theorem dX3_point_41 : decode cX3_point 41 = .ok (.getfield 7, 3) := by decide +kernel
theorem dX3_point_44 : decode cX3_point 44 = .ok (.bipush 6, 2) := by decide +kernel
theorem dX3_point_46 : decode cX3_point 46 = .ok (.iload_n 1, 1) := by decide +kernel
theorem dX3_point_47 : decode cX3_point 47 = .ok (.iload 4, 2) := by decide +kernel
theorem dX3_point_49 : decode cX3_point 49 = .ok (.invokestatic 51, 3) := by decide +kernel
theorem dX3_point_52 : decode cX3_point 52 = .ok (.iadd, 1) := by decide +kernel
theorem dX3_point_53 : decode cX3_point 53 = .ok (.iload_n 2, 1) := by decide +kernel
theorem dX3_point_54 : decode cX3_point 54 = .ok (.iastore, 1) := by decide +kernel
theorem dX3_point_55 : decode cX3_point 55 = .ok (.aload_n 0, 1) := by decide +kernel
theorem dX3_point_56 : decode cX3_point 56 = .ok (.getfield 7, 3) := by decide +kernel
theorem dX3_point_59 : decode cX3_point 59 = .ok (.bipush 30, 2) := by decide +kernel
theorem dX3_point_61 : decode cX3_point 61 = .ok (.iload_n 1, 1) := by decide +kernel
theorem dX3_point_62 : decode cX3_point 62 = .ok (.iload 4, 2) := by decide +kernel
theorem dX3_point_64 : decode cX3_point 64 = .ok (.invokestatic 51, 3) := by decide +kernel
theorem dX3_point_67 : decode cX3_point 67 = .ok (.iadd, 1) := by decide +kernel
theorem dX3_point_68 : decode cX3_point 68 = .ok (.iload_n 3, 1) := by decide +kernel
theorem dX3_point_69 : decode cX3_point 69 = .ok (.iastore, 1) := by decide +kernel
theorem dX3_point_70 : decode cX3_point 70 = .ok (.aload_n 0, 1) := by decide +kernel
theorem dX3_point_71 : decode cX3_point 71 = .ok (.getfield 7, 3) := by decide +kernel
theorem dX3_point_74 : decode cX3_point 74 = .ok (.iconst 0, 1) := by decide +kernel
theorem dX3_point_75 : decode cX3_point 75 = .ok (.iload_n 1, 1) := by decide +kernel
theorem dX3_point_76 : decode cX3_point 76 = .ok (.iadd, 1) := by decide +kernel
theorem dX3_point_77 : decode cX3_point 77 = .ok (.dup2, 1) := by decide +kernel
theorem dX3_point_78 : decode cX3_point 78 = .ok (.iaload, 1) := by decide +kernel
theorem dX3_point_79 : decode cX3_point 79 = .ok (.iconst 1, 1) := by decide +kernel
theorem dX3_point_80 : decode cX3_point 80 = .ok (.iadd, 1) := by decide +kernel
theorem dX3_point_81 : decode cX3_point 81 = .ok (.iastore, 1) := by decide +kernel
theorem dX3_point_82 : decode cX3_point 82 = .ok (.iload 4, 2) := by decide +kernel
theorem dX3_point_84 : decode cX3_point 84 = .ok (.ireturn, 1) := by decide +kernel
set_option maxRecDepth 20000 in
theorem ggX3_pop_X3_isLayer : GoodIn wsX3_pop wsX3_isLayer := goodIn_r _ [5, 6, 7, 4, 8] (by decide +kernel) (by decide +kernel)
set_option maxRecDepth 20000 in
theorem gX3_pop_X3_isLayer : GoodIn wsX3_pop (va_wsS RX3 43 yX3_isLayer wsX3_isLayer) := goodIn_app (goodIn_of _ (by decide +kernel)) ggX3_pop_X3_isLayer
theorem dX3_pop_0 : decode cX3_pop 0 = .ok (.iload_n 1, 1) := by decide +kernel
theorem dX3_pop_1 : decode cX3_pop 1 = .ok (.invokestatic 43, 3) := by decide +kernel
theorem dX3_pop_4 : decode cX3_pop 4 = .ok (.ifCond .ne 5, 3) := by decide +kernel
theorem dX3_pop_7 : decode cX3_pop 7 = .ok (.iconst (-1), 1) := by decide +kernel
theorem dX3_pop_8 : decode cX3_pop 8 = .ok (.ireturn, 1) := by decide +kernel
theorem dX3_pop_9 : decode cX3_pop 9 = .ok (.aload_n 0, 1) := by decide +kernel
theorem dX3_pop_10 : decode cX3_pop 10 = .ok (.getfield 7, 3) := by decide +kernel
theorem dX3_pop_13 : decode cX3_pop 13 = .ok (.iconst 0, 1) := by decide +kernel
theorem dX3_pop_14 : decode cX3_pop 14 = .ok (.iload_n 1, 1) := by decide +kernel
theorem dX3_pop_15 : decode cX3_pop 15 = .ok (.iadd, 1) := by decide +kernel
theorem dX3_pop_16 : decode cX3_pop 16 = .ok (.iaload, 1) := by decide +kernel
theorem dX3_pop_17 : decode cX3_pop 17 = .ok (.ifCond .ne 6, 3) := by decide +kernel
theorem dX3_pop_20 : decode cX3_pop 20 = .ok (.bipush (-3), 2) := by decide +kernel
theorem dX3_pop_22 : decode cX3_pop 22 = .ok (.ireturn, 1) := by decide +kernel
theorem dX3_pop_23 : decode cX3_pop 23 = .ok (.aload_n 0, 1) := by decide +kernel
theorem dX3_pop_24 : decode cX3_pop 24 = .ok (.getfield 7, 3) := by decide +kernel
theorem dX3_pop_27 : decode cX3_pop 27 = .ok (.iconst 0, 1) := by decide +kernel
theorem dX3_pop_28 : decode cX3_pop 28 = .ok (.iload_n 1, 1) := by decide +kernel
theorem dX3_pop_29 : decode cX3_pop 29 = .ok (.iadd, 1) := by decide +kernel
theorem dX3_pop_30 : decode cX3_pop 30 = .ok (.dup2, 1) := by decide +kernel
theorem dX3_pop_31 : decode cX3_pop 31 = .ok (.iaload, 1) := by decide +kernel
theorem dX3_pop_32 : decode cX3_pop 32 = .ok (.iconst 1, 1) := by decide +kernel
theorem dX3_pop_33 : decode cX3_pop 33 = .ok (.isub, 1) := by decide +kernel
theorem dX3_pop_34 : decode cX3_pop 34 = .ok (.iastore, 1) := by decide +kernel
theorem dX3_pop_35 : decode cX3_pop 35 = .ok (.aload_n 0, 1) := by decide +kernel
theorem dX3_pop_36 : decode cX3_pop 36 = .ok (.getfield 7, 3) := by decide +kernel
theorem dX3_pop_39 : decode cX3_pop 39 = .ok (.iconst 0, 1) := by decide +kernel
theorem dX3_pop_40 : decode cX3_pop 40 = .ok (.iload_n 1, 1) := by decide +kernel
theorem dX3_pop_41 : decode cX3_pop 41 = .ok (.iadd, 1) := by decide +kernel
theorem dX3_pop_42 : decode cX3_pop 42 = .ok (.iaload, 1) := by decide +kernel
theorem dX3_pop_43 : decode cX3_pop 43 = .ok (.ireturn, 1) := by decide +kernel
set_option maxRecDepth 20000 in
theorem ggX3_set_X3_isLayer : GoodIn wsX3_set wsX3_isLayer := goodIn_r _ [5, 6, 7, 4, 8] (by decide +kernel) (by decide +kernel)
set_option maxRecDepth 20000 in
theorem gX3_set_X3_isLayer : GoodIn wsX3_set (va_wsS RX3 43 yX3_isLayer wsX3_isLayer) := goodIn_app (goodIn_of _ (by decide +kernel)) ggX3_set_X3_isLayer
set_option maxRecDepth 20000 in
theorem ggX3_set_X3_isPoint : GoodIn wsX3_set wsX3_isPoint := goodIn_r _ [12, 1, 6, 7, 4, 8, 19, 20, 21, 22, 23, 24, 25, 26, 27, 28, 29] (by decide +kernel) (by decide +kernel)
set_option maxRecDepth 20000 in
theorem gX3_set_X3_isPoint : GoodIn wsX3_set (wsV RX3 55 RX3 yX3_isPoint wsX3_isPoint) := goodIn_app (goodIn_of _ (by decide +kernel)) ggX3_set_X3_isPoint
set_option maxRecDepth 20000 in
theorem ggX3_set_X3_isHere : GoodIn wsX3_set wsX3_isHere := goodIn_r _ [15, 6, 7, 4, 8] (by decide +kernel) (by decide +kernel)
set_option maxRecDepth 20000 in
theorem gX3_set_X3_isHere : GoodIn wsX3_set (va_wsS RX3 47 yX3_isHere wsX3_isHere) := goodIn_app (goodIn_of _ (by decide +kernel)) ggX3_set_X3_isHere
set_option maxRecDepth 20000 in
theorem ggX3_set_X3_place : GoodIn wsX3_set wsX3_place := goodIn_r _ [18] (by decide +kernel) (by decide +kernel)
set_option maxRecDepth 20000 in
theorem gX3_set_X3_place : GoodIn wsX3_set (va_wsS RX3 51 yX3_place wsX3_place) := goodIn_app (goodIn_of _ (by decide +kernel)) ggX3_set_X3_place
theorem dX3_set_0 : decode cX3_set 0 = .ok (.iload_n 1, 1) := by decide +kernel
theorem dX3_set_1 : decode cX3_set 1 = .ok (.invokestatic 43, 3) := by decide +kernel
theorem dX3_set_4 : decode cX3_set 4 = .ok (.ifCond .eq 12, 3) := by decide +kernel
theorem dX3_set_7 : decode cX3_set 7 = .ok (.aload_n 0, 1) := by decide +kernel
theorem dX3_set_8 : decode cX3_set 8 = .ok (.iload_n 1, 1) := by decide +kernel
theorem dX3_set_9 : decode cX3_set 9 = .ok (.iload_n 2, 1) := by decide +kernel
theorem dX3_set_10 : decode cX3_set 10 = .ok (.invokevirtual 55, 3) := by decide +kernel
theorem dX3_set_13 : decode cX3_set 13 = .ok (.ifCond .ne 5, 3) := by decide +kernel
theorem dX3_set_16 : decode cX3_set 16 = .ok (.iconst (-1), 1) := by decide +kernel
theorem dX3_set_17 : decode cX3_set 17 = .ok (.ireturn, 1) := by decide +kernel
theorem dX3_set_18 : decode cX3_set 18 = .ok (.iload_n 3, 1) := by decide +kernel
theorem dX3_set_19 : decode cX3_set 19 = .ok (.iload 4, 2) := by decide +kernel
theorem dX3_set_21 : decode cX3_set 21 = .ok (.invokestatic 47, 3) := by decide +kernel
theorem dX3_set_24 : decode cX3_set 24 = .ok (.ifCond .ne 6, 3) := by decide +kernel
theorem dX3_set_27 : decode cX3_set 27 = .ok (.bipush (-2), 2) := by decide +kernel
theorem dX3_set_29 : decode cX3_set 29 = .ok (.ireturn, 1) := by decide +kernel
theorem dX3_set_30 : decode cX3_set 30 = .ok (.iload_n 1, 1) := by decide +kernel
theorem dX3_set_31 : decode cX3_set 31 = .ok (.iload_n 2, 1) := by decide +kernel
theorem dX3_set_32 : decode cX3_set 32 = .ok (.invokestatic 51, 3) := by decide +kernel
theorem dX3_set_35 : decode cX3_set 35 = .ok (.istore 5, 2) := by decide +kernel
theorem dX3_set_37 : decode cX3_set 37 = .ok (.bipush 13, 2) := by decide +kernel
theorem dX3_set_39 : decode cX3_set 39 = .ok (.aload_n 0, 1) := by decide +kernel
theorem dX3_set_40 : decode cX3_set 40 = .ok (.getfield 7, 3) := by decide +kernel
theorem dX3_set_43 : decode cX3_set 43 = .ok (.bipush 6, 2) := by decide +kernel
theorem dX3_set_45 : decode cX3_set 45 = .ok (.iload 5, 2) := by decide +kernel
theorem dX3_set_47 : decode cX3_set 47 = .ok (.iadd, 1) := by decide +kernel
theorem dX3_set_48 : decode cX3_set 48 = .ok (.iaload, 1) := by decide +kernel
theorem dX3_set_49 : decode cX3_set 49 = .ok (.imul, 1) := by decide +kernel
theorem dX3_set_50 : decode cX3_set 50 = .ok (.aload_n 0, 1) := by decide +kernel
theorem dX3_set_51 : decode cX3_set 51 = .ok (.getfield 7, 3) := by decide +kernel
theorem dX3_set_54 : decode cX3_set 54 = .ok (.bipush 30, 2) := by decide +kernel
theorem dX3_set_56 : decode cX3_set 56 = .ok (.iload 5, 2) := by decide +kernel
theorem dX3_set_58 : decode cX3_set 58 = .ok (.iadd, 1) := by decide +kernel
theorem dX3_set_59 : decode cX3_set 59 = .ok (.iaload, 1) := by decide +kernel
theorem dX3_set_60 : decode cX3_set 60 = .ok (.iadd, 1) := by decide +kernel
theorem dX3_set_61 : decode cX3_set 61 = .ok (.istore 6, 2) := by decide +kernel
theorem dX3_set_63 : decode cX3_set 63 = .ok (.aload_n 0, 1) := by decide +kernel
theorem dX3_set_64 : decode cX3_set 64 = .ok (.getfield 7, 3) := by decide +kernel
theorem dX3_set_67 : decode cX3_set 67 = .ok (.bipush 6, 2) := by decide +kernel
theorem dX3_set_69 : decode cX3_set 69 = .ok (.iload 5, 2) := by decide +kernel
theorem dX3_set_71 : decode cX3_set 71 = .ok (.iadd, 1) := by decide +kernel
theorem dX3_set_72 : decode cX3_set 72 = .ok (.iload_n 3, 1) := by decide +kernel
theorem dX3_set_73 : decode cX3_set 73 = .ok (.iastore, 1) := by decide +kernel
theorem dX3_set_74 : decode cX3_set 74 = .ok (.aload_n 0, 1) := by decide +kernel
theorem dX3_set_75 : decode cX3_set 75 = .ok (.getfield 7, 3) := by decide +kernel
theorem dX3_set_78 : decode cX3_set 78 = .ok (.bipush 30, 2) := by decide +kernel
theorem dX3_set_80 : decode cX3_set 80 = .ok (.iload 5, 2) := by decide +kernel
theorem dX3_set_82 : decode cX3_set 82 = .ok (.iadd, 1) := by decide +kernel
theorem dX3_set_83 : decode cX3_set 83 = .ok (.iload 4, 2) := by decide +kernel
theorem dX3_set_85 : decode cX3_set 85 = .ok (.iastore, 1) := by decide +kernel
theorem dX3_set_86 : decode cX3_set 86 = .ok (.iload 6, 2) := by decide +kernel
theorem dX3_set_88 : decode cX3_set 88 = .ok (.ireturn, 1) := by decide +kernel
set_option maxRecDepth 20000 in
theorem ggX3_rule_X3_isLayer : GoodIn wsX3_rule wsX3_isLayer := goodIn_r _ [5, 6, 7, 4, 8] (by decide +kernel) (by decide +kernel)
set_option maxRecDepth 20000 in
theorem gX3_rule_X3_isLayer : GoodIn wsX3_rule (va_wsS RX3 43 yX3_isLayer wsX3_isLayer) := goodIn_app (goodIn_of _ (by decide +kernel)) ggX3_rule_X3_isLayer
set_option maxRecDepth 20000 in
theorem ggX3_rule_X3_in : GoodIn wsX3_rule wsX3_in := goodIn_r _ [8] (by decide +kernel) (by decide +kernel)
set_option maxRecDepth 20000 in
theorem gX3_rule_X3_in : GoodIn wsX3_rule (va_wsS RX3 39 yX3_in wsX3_in) := goodIn_app (goodIn_of _ (by decide +kernel)) ggX3_rule_X3_in
theorem dX3_rule_0 : decode cX3_rule 0 = .ok (.iload_n 1, 1) := by decide +kernel
theorem dX3_rule_1 : decode cX3_rule 1 = .ok (.invokestatic 43, 3) := by decide +kernel
theorem dX3_rule_4 : decode cX3_rule 4 = .ok (.ifCond .ne 5, 3) := by decide +kernel
theorem dX3_rule_7 : decode cX3_rule 7 = .ok (.iconst (-1), 1) := by decide +kernel
theorem dX3_rule_8 : decode cX3_rule 8 = .ok (.ireturn, 1) := by decide +kernel
theorem dX3_rule_9 : decode cX3_rule 9 = .ok (.iload_n 2, 1) := by decide +kernel
theorem dX3_rule_10 : decode cX3_rule 10 = .ok (.iconst 0, 1) := by decide +kernel
theorem dX3_rule_11 : decode cX3_rule 11 = .ok (.iconst 1, 1) := by decide +kernel
theorem dX3_rule_12 : decode cX3_rule 12 = .ok (.invokestatic 39, 3) := by decide +kernel
theorem dX3_rule_15 : decode cX3_rule 15 = .ok (.ifCond .ne 6, 3) := by decide +kernel
theorem dX3_rule_18 : decode cX3_rule 18 = .ok (.bipush (-2), 2) := by decide +kernel
theorem dX3_rule_20 : decode cX3_rule 20 = .ok (.ireturn, 1) := by decide +kernel
theorem dX3_rule_21 : decode cX3_rule 21 = .ok (.aload_n 0, 1) := by decide +kernel
theorem dX3_rule_22 : decode cX3_rule 22 = .ok (.getfield 7, 3) := by decide +kernel
theorem dX3_rule_25 : decode cX3_rule 25 = .ok (.iconst 3, 1) := by decide +kernel
theorem dX3_rule_26 : decode cX3_rule 26 = .ok (.iload_n 1, 1) := by decide +kernel
theorem dX3_rule_27 : decode cX3_rule 27 = .ok (.iadd, 1) := by decide +kernel
theorem dX3_rule_28 : decode cX3_rule 28 = .ok (.iaload, 1) := by decide +kernel
theorem dX3_rule_29 : decode cX3_rule 29 = .ok (.istore_n 3, 1) := by decide +kernel
theorem dX3_rule_30 : decode cX3_rule 30 = .ok (.aload_n 0, 1) := by decide +kernel
theorem dX3_rule_31 : decode cX3_rule 31 = .ok (.getfield 7, 3) := by decide +kernel
theorem dX3_rule_34 : decode cX3_rule 34 = .ok (.iconst 3, 1) := by decide +kernel
theorem dX3_rule_35 : decode cX3_rule 35 = .ok (.iload_n 1, 1) := by decide +kernel
theorem dX3_rule_36 : decode cX3_rule 36 = .ok (.iadd, 1) := by decide +kernel
theorem dX3_rule_37 : decode cX3_rule 37 = .ok (.iload_n 2, 1) := by decide +kernel
theorem dX3_rule_38 : decode cX3_rule 38 = .ok (.iastore, 1) := by decide +kernel
theorem dX3_rule_39 : decode cX3_rule 39 = .ok (.iload_n 3, 1) := by decide +kernel
theorem dX3_rule_40 : decode cX3_rule 40 = .ok (.ireturn, 1) := by decide +kernel
set_option maxRecDepth 20000 in
theorem ggX3_canMove_X3_place : GoodIn wsX3_canMove wsX3_place := goodIn_r _ [5] (by decide +kernel) (by decide +kernel)
set_option maxRecDepth 20000 in
theorem gX3_canMove_X3_place : GoodIn wsX3_canMove (va_wsS RX3 51 yX3_place wsX3_place) := goodIn_app (goodIn_of _ (by decide +kernel)) ggX3_canMove_X3_place
set_option maxRecDepth 20000 in
theorem ggX3_canMove_X3_isHere : GoodIn wsX3_canMove wsX3_isHere := goodIn_r _ [8, 9, 10, 4, 11] (by decide +kernel) (by decide +kernel)
set_option maxRecDepth 20000 in
theorem gX3_canMove_X3_isHere : GoodIn wsX3_canMove (va_wsS RX3 47 yX3_isHere wsX3_isHere) := goodIn_app (goodIn_of _ (by decide +kernel)) ggX3_canMove_X3_isHere
theorem dX3_canMove_0 : decode cX3_canMove 0 = .ok (.iconst 1, 1) := by decide +kernel
theorem dX3_canMove_1 : decode cX3_canMove 1 = .ok (.istore 4, 2) := by decide +kernel
theorem dX3_canMove_3 : decode cX3_canMove 3 = .ok (.iconst 0, 1) := by decide +kernel
theorem dX3_canMove_4 : decode cX3_canMove 4 = .ok (.istore 5, 2) := by decide +kernel
theorem dX3_canMove_6 : decode cX3_canMove 6 = .ok (.iload 5, 2) := by decide +kernel
theorem dX3_canMove_8 : decode cX3_canMove 8 = .ok (.aload_n 0, 1) := by decide +kernel
theorem dX3_canMove_9 : decode cX3_canMove 9 = .ok (.getfield 7, 3) := by decide +kernel
theorem dX3_canMove_12 : decode cX3_canMove 12 = .ok (.iconst 0, 1) := by decide +kernel
theorem dX3_canMove_13 : decode cX3_canMove 13 = .ok (.iload_n 1, 1) := by decide +kernel
theorem dX3_canMove_14 : decode cX3_canMove 14 = .ok (.iadd, 1) := by decide +kernel
theorem dX3_canMove_15 : decode cX3_canMove 15 = .ok (.iaload, 1) := by decide +kernel
theorem dX3_canMove_16 : decode cX3_canMove 16 = .ok (.if_icmp .ge 59, 3) := by decide +kernel
theorem dX3_canMove_19 : decode cX3_canMove 19 = .ok (.iload 4, 2) := by decide +kernel
theorem dX3_canMove_21 : decode cX3_canMove 21 = .ok (.ifCond .eq 45, 3) := by decide +kernel
theorem dX3_canMove_24 : decode cX3_canMove 24 = .ok (.aload_n 0, 1) := by decide +kernel
theorem dX3_canMove_25 : decode cX3_canMove 25 = .ok (.getfield 7, 3) := by decide +kernel
theorem dX3_canMove_28 : decode cX3_canMove 28 = .ok (.bipush 6, 2) := by decide +kernel
theorem dX3_canMove_30 : decode cX3_canMove 30 = .ok (.iload_n 1, 1) := by decide +kernel
theorem dX3_canMove_31 : decode cX3_canMove 31 = .ok (.iload 5, 2) := by decide +kernel
theorem dX3_canMove_33 : decode cX3_canMove 33 = .ok (.invokestatic 51, 3) := by decide +kernel
theorem dX3_canMove_36 : decode cX3_canMove 36 = .ok (.iadd, 1) := by decide +kernel
theorem dX3_canMove_37 : decode cX3_canMove 37 = .ok (.iaload, 1) := by decide +kernel
theorem dX3_canMove_38 : decode cX3_canMove 38 = .ok (.iload_n 2, 1) := by decide +kernel
theorem dX3_canMove_39 : decode cX3_canMove 39 = .ok (.iadd, 1) := by decide +kernel
theorem dX3_canMove_40 : decode cX3_canMove 40 = .ok (.aload_n 0, 1) := by decide +kernel
theorem dX3_canMove_41 : decode cX3_canMove 41 = .ok (.getfield 7, 3) := by decide +kernel
theorem dX3_canMove_44 : decode cX3_canMove 44 = .ok (.bipush 30, 2) := by decide +kernel
theorem dX3_canMove_46 : decode cX3_canMove 46 = .ok (.iload_n 1, 1) := by decide +kernel
theorem dX3_canMove_47 : decode cX3_canMove 47 = .ok (.iload 5, 2) := by decide +kernel
theorem dX3_canMove_49 : decode cX3_canMove 49 = .ok (.invokestatic 51, 3) := by decide +kernel
theorem dX3_canMove_52 : decode cX3_canMove 52 = .ok (.iadd, 1) := by decide +kernel
theorem dX3_canMove_53 : decode cX3_canMove 53 = .ok (.iaload, 1) := by decide +kernel
theorem dX3_canMove_54 : decode cX3_canMove 54 = .ok (.iload_n 3, 1) := by decide +kernel
theorem dX3_canMove_55 : decode cX3_canMove 55 = .ok (.iadd, 1) := by decide +kernel
theorem dX3_canMove_56 : decode cX3_canMove 56 = .ok (.invokestatic 47, 3) := by decide +kernel
theorem dX3_canMove_59 : decode cX3_canMove 59 = .ok (.ifCond .eq 7, 3) := by decide +kernel
theorem dX3_canMove_62 : decode cX3_canMove 62 = .ok (.iconst 1, 1) := by decide +kernel
theorem dX3_canMove_63 : decode cX3_canMove 63 = .ok (.goto 4, 3) := by decide +kernel
theorem dX3_canMove_66 : decode cX3_canMove 66 = .ok (.iconst 0, 1) := by decide +kernel
theorem dX3_canMove_67 : decode cX3_canMove 67 = .ok (.istore 4, 2) := by decide +kernel
theorem dX3_canMove_69 : decode cX3_canMove 69 = .ok (.iinc 5 1, 3) := by decide +kernel
theorem dX3_canMove_72 : decode cX3_canMove 72 = .ok (.goto (-66), 3) := by decide +kernel
theorem dX3_canMove_75 : decode cX3_canMove 75 = .ok (.iload 4, 2) := by decide +kernel
theorem dX3_canMove_77 : decode cX3_canMove 77 = .ok (.ireturn, 1) := by decide +kernel
set_option maxRecDepth 20000 in
theorem ggX3_move_X3_isLayer : GoodIn wsX3_move wsX3_isLayer := goodIn_r _ [5, 6, 7, 4, 8] (by decide +kernel) (by decide +kernel)
set_option maxRecDepth 20000 in
theorem gX3_move_X3_isLayer : GoodIn wsX3_move (va_wsS RX3 43 yX3_isLayer wsX3_isLayer) := goodIn_app (goodIn_of _ (by decide +kernel)) ggX3_move_X3_isLayer
set_option maxRecDepth 20000 in
theorem ggX3_move_X3_in : GoodIn wsX3_move wsX3_in := goodIn_r _ [8] (by decide +kernel) (by decide +kernel)
set_option maxRecDepth 20000 in
theorem gX3_move_X3_in : GoodIn wsX3_move (va_wsS RX3 39 yX3_in wsX3_in) := goodIn_app (goodIn_of _ (by decide +kernel)) ggX3_move_X3_in
set_option maxRecDepth 20000 in
theorem ggX3_move_X3_canMove : GoodIn wsX3_move wsX3_canMove := goodIn_r _ [12, 1, 13, 14, 4, 15, 16, 17, 18, 6, 7, 8, 19, 20, 21, 22, 23, 24, 25, 26, 27, 28, 29] (by decide +kernel) (by decide +kernel)
set_option maxRecDepth 20000 in
theorem gX3_move_X3_canMove : GoodIn wsX3_move (wsV RX3 58 RX3 yX3_canMove wsX3_canMove) := goodIn_app (goodIn_of _ (by decide +kernel)) ggX3_move_X3_canMove
set_option maxRecDepth 20000 in
theorem ggX3_move_X3_place : GoodIn wsX3_move wsX3_place := goodIn_r _ [15] (by decide +kernel) (by decide +kernel)
set_option maxRecDepth 20000 in
theorem gX3_move_X3_place : GoodIn wsX3_move (va_wsS RX3 51 yX3_place wsX3_place) := goodIn_app (goodIn_of _ (by decide +kernel)) ggX3_move_X3_place
theorem dX3_move_0 : decode cX3_move 0 = .ok (.iload_n 1, 1) := by decide +kernel
theorem dX3_move_1 : decode cX3_move 1 = .ok (.invokestatic 43, 3) := by decide +kernel
theorem dX3_move_4 : decode cX3_move 4 = .ok (.ifCond .ne 5, 3) := by decide +kernel
theorem dX3_move_7 : decode cX3_move 7 = .ok (.iconst (-1), 1) := by decide +kernel
theorem dX3_move_8 : decode cX3_move 8 = .ok (.ireturn, 1) := by decide +kernel
theorem dX3_move_9 : decode cX3_move 9 = .ok (.iload_n 2, 1) := by decide +kernel
theorem dX3_move_10 : decode cX3_move 10 = .ok (.bipush (-12), 2) := by decide +kernel
theorem dX3_move_12 : decode cX3_move 12 = .ok (.bipush 12, 2) := by decide +kernel
theorem dX3_move_14 : decode cX3_move 14 = .ok (.invokestatic 39, 3) := by decide +kernel
theorem dX3_move_17 : decode cX3_move 17 = .ok (.ifCond .eq 14, 3) := by decide +kernel
theorem dX3_move_20 : decode cX3_move 20 = .ok (.iload_n 3, 1) := by decide +kernel
theorem dX3_move_21 : decode cX3_move 21 = .ok (.bipush (-12), 2) := by decide +kernel
theorem dX3_move_23 : decode cX3_move 23 = .ok (.bipush 12, 2) := by decide +kernel
theorem dX3_move_25 : decode cX3_move 25 = .ok (.invokestatic 39, 3) := by decide +kernel
theorem dX3_move_28 : decode cX3_move 28 = .ok (.ifCond .ne 6, 3) := by decide +kernel
theorem dX3_move_31 : decode cX3_move 31 = .ok (.bipush (-2), 2) := by decide +kernel
theorem dX3_move_33 : decode cX3_move 33 = .ok (.ireturn, 1) := by decide +kernel
theorem dX3_move_34 : decode cX3_move 34 = .ok (.aload_n 0, 1) := by decide +kernel
theorem dX3_move_35 : decode cX3_move 35 = .ok (.iload_n 1, 1) := by decide +kernel
theorem dX3_move_36 : decode cX3_move 36 = .ok (.iload_n 2, 1) := by decide +kernel
theorem dX3_move_37 : decode cX3_move 37 = .ok (.iload_n 3, 1) := by decide +kernel
theorem dX3_move_38 : decode cX3_move 38 = .ok (.invokevirtual 58, 3) := by decide +kernel
theorem dX3_move_41 : decode cX3_move 41 = .ok (.ifCond .ne 6, 3) := by decide +kernel
theorem dX3_move_44 : decode cX3_move 44 = .ok (.bipush (-5), 2) := by decide +kernel
theorem dX3_move_46 : decode cX3_move 46 = .ok (.ireturn, 1) := by decide +kernel
theorem dX3_move_47 : decode cX3_move 47 = .ok (.iconst 0, 1) := by decide +kernel
theorem dX3_move_48 : decode cX3_move 48 = .ok (.istore 4, 2) := by decide +kernel
theorem dX3_move_50 : decode cX3_move 50 = .ok (.iload 4, 2) := by decide +kernel
theorem dX3_move_52 : decode cX3_move 52 = .ok (.aload_n 0, 1) := by decide +kernel
theorem dX3_move_53 : decode cX3_move 53 = .ok (.getfield 7, 3) := by decide +kernel
theorem dX3_move_56 : decode cX3_move 56 = .ok (.iconst 0, 1) := by decide +kernel
theorem dX3_move_57 : decode cX3_move 57 = .ok (.iload_n 1, 1) := by decide +kernel
theorem dX3_move_58 : decode cX3_move 58 = .ok (.iadd, 1) := by decide +kernel
theorem dX3_move_59 : decode cX3_move 59 = .ok (.iaload, 1) := by decide +kernel
theorem dX3_move_60 : decode cX3_move 60 = .ok (.if_icmp .ge 45, 3) := by decide +kernel
theorem dX3_move_63 : decode cX3_move 63 = .ok (.aload_n 0, 1) := by decide +kernel
theorem dX3_move_64 : decode cX3_move 64 = .ok (.getfield 7, 3) := by decide +kernel
theorem dX3_move_67 : decode cX3_move 67 = .ok (.bipush 6, 2) := by decide +kernel
theorem dX3_move_69 : decode cX3_move 69 = .ok (.iload_n 1, 1) := by decide +kernel
theorem dX3_move_70 : decode cX3_move 70 = .ok (.iload 4, 2) := by decide +kernel
theorem dX3_move_72 : decode cX3_move 72 = .ok (.invokestatic 51, 3) := by decide +kernel
theorem dX3_move_75 : decode cX3_move 75 = .ok (.iadd, 1) := by decide +kernel
theorem dX3_move_76 : decode cX3_move 76 = .ok (.dup2, 1) := by decide +kernel
theorem dX3_move_77 : decode cX3_move 77 = .ok (.iaload, 1) := by decide +kernel
theorem dX3_move_78 : decode cX3_move 78 = .ok (.iload_n 2, 1) := by decide +kernel
theorem dX3_move_79 : decode cX3_move 79 = .ok (.iadd, 1) := by decide +kernel
theorem dX3_move_80 : decode cX3_move 80 = .ok (.iastore, 1) := by decide +kernel
theorem dX3_move_81 : decode cX3_move 81 = .ok (.aload_n 0, 1) := by decide +kernel
theorem dX3_move_82 : decode cX3_move 82 = .ok (.getfield 7, 3) := by decide +kernel
theorem dX3_move_85 : decode cX3_move 85 = .ok (.bipush 30, 2) := by decide +kernel
theorem dX3_move_87 : decode cX3_move 87 = .ok (.iload_n 1, 1) := by decide +kernel
theorem dX3_move_88 : decode cX3_move 88 = .ok (.iload 4, 2) := by decide +kernel
theorem dX3_move_90 : decode cX3_move 90 = .ok (.invokestatic 51, 3) := by decide +kernel
theorem dX3_move_93 : decode cX3_move 93 = .ok (.iadd, 1) := by decide +kernel
theorem dX3_move_94 : decode cX3_move 94 = .ok (.dup2, 1) := by decide +kernel
theorem dX3_move_95 : decode cX3_move 95 = .ok (.iaload, 1) := by decide +kernel
theorem dX3_move_96 : decode cX3_move 96 = .ok (.iload_n 3, 1) := by decide +kernel
theorem dX3_move_97 : decode cX3_move 97 = .ok (.iadd, 1) := by decide +kernel
theorem dX3_move_98 : decode cX3_move 98 = .ok (.iastore, 1) := by decide +kernel
theorem dX3_move_99 : decode cX3_move 99 = .ok (.iinc 4 1, 3) := by decide +kernel
theorem dX3_move_102 : decode cX3_move 102 = .ok (.goto (-52), 3) := by decide +kernel
theorem dX3_move_105 : decode cX3_move 105 = .ok (.aload_n 0, 1) := by decide +kernel
theorem dX3_move_106 : decode cX3_move 106 = .ok (.getfield 7, 3) := by decide +kernel
theorem dX3_move_109 : decode cX3_move 109 = .ok (.iconst 0, 1) := by decide +kernel
theorem dX3_move_110 : decode cX3_move 110 = .ok (.iload_n 1, 1) := by decide +kernel
theorem dX3_move_111 : decode cX3_move 111 = .ok (.iadd, 1) := by decide +kernel
theorem dX3_move_112 : decode cX3_move 112 = .ok (.iaload, 1) := by decide +kernel
theorem dX3_move_113 : decode cX3_move 113 = .ok (.ireturn, 1) := by decide +kernel
set_option maxRecDepth 20000 in
theorem ggX3_putAside_X3_place : GoodIn wsX3_putAside wsX3_place := goodIn_r _ [7] (by decide +kernel) (by decide +kernel)
set_option maxRecDepth 20000 in
theorem gX3_putAside_X3_place : GoodIn wsX3_putAside (va_wsS RX3 51 yX3_place wsX3_place) := goodIn_app (goodIn_of _ (by decide +kernel)) ggX3_putAside_X3_place
theorem dX3_putAside_0 : decode cX3_putAside 0 = .ok (.iconst 0, 1) := by decide +kernel
theorem dX3_putAside_1 : decode cX3_putAside 1 = .ok (.istore_n 2, 1) := by decide +kernel
theorem dX3_putAside_2 : decode cX3_putAside 2 = .ok (.iload_n 2, 1) := by decide +kernel
theorem dX3_putAside_3 : decode cX3_putAside 3 = .ok (.aload_n 0, 1) := by decide +kernel
theorem dX3_putAside_4 : decode cX3_putAside 4 = .ok (.getfield 7, 3) := by decide +kernel
theorem dX3_putAside_7 : decode cX3_putAside 7 = .ok (.iconst 0, 1) := by decide +kernel
theorem dX3_putAside_8 : decode cX3_putAside 8 = .ok (.iload_n 1, 1) := by decide +kernel
theorem dX3_putAside_9 : decode cX3_putAside 9 = .ok (.iadd, 1) := by decide +kernel
theorem dX3_putAside_10 : decode cX3_putAside 10 = .ok (.iaload, 1) := by decide +kernel
theorem dX3_putAside_11 : decode cX3_putAside 11 = .ok (.if_icmp .ge 47, 3) := by decide +kernel
theorem dX3_putAside_14 : decode cX3_putAside 14 = .ok (.aload_n 0, 1) := by decide +kernel
theorem dX3_putAside_15 : decode cX3_putAside 15 = .ok (.getfield 20, 3) := by decide +kernel
theorem dX3_putAside_18 : decode cX3_putAside 18 = .ok (.iload_n 2, 1) := by decide +kernel
theorem dX3_putAside_19 : decode cX3_putAside 19 = .ok (.aload_n 0, 1) := by decide +kernel
theorem dX3_putAside_20 : decode cX3_putAside 20 = .ok (.getfield 7, 3) := by decide +kernel
theorem dX3_putAside_23 : decode cX3_putAside 23 = .ok (.bipush 6, 2) := by decide +kernel
theorem dX3_putAside_25 : decode cX3_putAside 25 = .ok (.iload_n 1, 1) := by decide +kernel
theorem dX3_putAside_26 : decode cX3_putAside 26 = .ok (.iload_n 2, 1) := by decide +kernel
theorem dX3_putAside_27 : decode cX3_putAside 27 = .ok (.invokestatic 51, 3) := by decide +kernel
theorem dX3_putAside_30 : decode cX3_putAside 30 = .ok (.iadd, 1) := by decide +kernel
theorem dX3_putAside_31 : decode cX3_putAside 31 = .ok (.iaload, 1) := by decide +kernel
theorem dX3_putAside_32 : decode cX3_putAside 32 = .ok (.iastore, 1) := by decide +kernel
theorem dX3_putAside_33 : decode cX3_putAside 33 = .ok (.aload_n 0, 1) := by decide +kernel
theorem dX3_putAside_34 : decode cX3_putAside 34 = .ok (.getfield 23, 3) := by decide +kernel
theorem dX3_putAside_37 : decode cX3_putAside 37 = .ok (.iload_n 2, 1) := by decide +kernel
theorem dX3_putAside_38 : decode cX3_putAside 38 = .ok (.aload_n 0, 1) := by decide +kernel
theorem dX3_putAside_39 : decode cX3_putAside 39 = .ok (.getfield 7, 3) := by decide +kernel
theorem dX3_putAside_42 : decode cX3_putAside 42 = .ok (.bipush 30, 2) := by decide +kernel
theorem dX3_putAside_44 : decode cX3_putAside 44 = .ok (.iload_n 1, 1) := by decide +kernel
theorem dX3_putAside_45 : decode cX3_putAside 45 = .ok (.iload_n 2, 1) := by decide +kernel
theorem dX3_putAside_46 : decode cX3_putAside 46 = .ok (.invokestatic 51, 3) := by decide +kernel
theorem dX3_putAside_49 : decode cX3_putAside 49 = .ok (.iadd, 1) := by decide +kernel
theorem dX3_putAside_50 : decode cX3_putAside 50 = .ok (.iaload, 1) := by decide +kernel
theorem dX3_putAside_51 : decode cX3_putAside 51 = .ok (.iastore, 1) := by decide +kernel
theorem dX3_putAside_52 : decode cX3_putAside 52 = .ok (.iinc 2 1, 3) := by decide +kernel
theorem dX3_putAside_55 : decode cX3_putAside 55 = .ok (.goto (-53), 3) := by decide +kernel
theorem dX3_putAside_58 : decode cX3_putAside 58 = .ok (.return_, 1) := by decide +kernel
set_option maxRecDepth 20000 in
theorem ggX3_layFrom_X3_place : GoodIn wsX3_layFrom wsX3_place := goodIn_r _ [7] (by decide +kernel) (by decide +kernel)
set_option maxRecDepth 20000 in
theorem gX3_layFrom_X3_place : GoodIn wsX3_layFrom (va_wsS RX3 51 yX3_place wsX3_place) := goodIn_app (goodIn_of _ (by decide +kernel)) ggX3_layFrom_X3_place
theorem dX3_layFrom_0 : decode cX3_layFrom 0 = .ok (.aload_n 0, 1) := by decide +kernel
theorem dX3_layFrom_1 : decode cX3_layFrom 1 = .ok (.getfield 7, 3) := by decide +kernel
theorem dX3_layFrom_4 : decode cX3_layFrom 4 = .ok (.bipush 6, 2) := by decide +kernel
theorem dX3_layFrom_6 : decode cX3_layFrom 6 = .ok (.iload_n 1, 1) := by decide +kernel
theorem dX3_layFrom_7 : decode cX3_layFrom 7 = .ok (.iload_n 2, 1) := by decide +kernel
theorem dX3_layFrom_8 : decode cX3_layFrom 8 = .ok (.invokestatic 51, 3) := by decide +kernel
theorem dX3_layFrom_11 : decode cX3_layFrom 11 = .ok (.iadd, 1) := by decide +kernel
theorem dX3_layFrom_12 : decode cX3_layFrom 12 = .ok (.aload_n 0, 1) := by decide +kernel
theorem dX3_layFrom_13 : decode cX3_layFrom 13 = .ok (.getfield 20, 3) := by decide +kernel
theorem dX3_layFrom_16 : decode cX3_layFrom 16 = .ok (.iload_n 3, 1) := by decide +kernel
theorem dX3_layFrom_17 : decode cX3_layFrom 17 = .ok (.iaload, 1) := by decide +kernel
theorem dX3_layFrom_18 : decode cX3_layFrom 18 = .ok (.iastore, 1) := by decide +kernel
theorem dX3_layFrom_19 : decode cX3_layFrom 19 = .ok (.aload_n 0, 1) := by decide +kernel
theorem dX3_layFrom_20 : decode cX3_layFrom 20 = .ok (.getfield 7, 3) := by decide +kernel
theorem dX3_layFrom_23 : decode cX3_layFrom 23 = .ok (.bipush 30, 2) := by decide +kernel
theorem dX3_layFrom_25 : decode cX3_layFrom 25 = .ok (.iload_n 1, 1) := by decide +kernel
theorem dX3_layFrom_26 : decode cX3_layFrom 26 = .ok (.iload_n 2, 1) := by decide +kernel
theorem dX3_layFrom_27 : decode cX3_layFrom 27 = .ok (.invokestatic 51, 3) := by decide +kernel
theorem dX3_layFrom_30 : decode cX3_layFrom 30 = .ok (.iadd, 1) := by decide +kernel
theorem dX3_layFrom_31 : decode cX3_layFrom 31 = .ok (.aload_n 0, 1) := by decide +kernel
theorem dX3_layFrom_32 : decode cX3_layFrom 32 = .ok (.getfield 23, 3) := by decide +kernel
theorem dX3_layFrom_35 : decode cX3_layFrom 35 = .ok (.iload_n 3, 1) := by decide +kernel
theorem dX3_layFrom_36 : decode cX3_layFrom 36 = .ok (.iaload, 1) := by decide +kernel
theorem dX3_layFrom_37 : decode cX3_layFrom 37 = .ok (.iastore, 1) := by decide +kernel
theorem dX3_layFrom_38 : decode cX3_layFrom 38 = .ok (.return_, 1) := by decide +kernel
set_option maxRecDepth 20000 in
theorem ggX3_back_X3_isLayer : GoodIn wsX3_back wsX3_isLayer := goodIn_r _ [5, 6, 7, 4, 8] (by decide +kernel) (by decide +kernel)
set_option maxRecDepth 20000 in
theorem gX3_back_X3_isLayer : GoodIn wsX3_back (va_wsS RX3 43 yX3_isLayer wsX3_isLayer) := goodIn_app (goodIn_of _ (by decide +kernel)) ggX3_back_X3_isLayer
set_option maxRecDepth 20000 in
theorem ggX3_back_X3_putAside : GoodIn wsX3_back wsX3_putAside := goodIn_r _ [12, 1, 13, 14, 15, 16, 4, 17, 22, 23, 24, 25, 26, 27, 28, 29, 30, 31, 32] (by decide +kernel) (by decide +kernel)
set_option maxRecDepth 20000 in
theorem gX3_back_X3_putAside : GoodIn wsX3_back (wsV RX3 61 RX3 yX3_putAside wsX3_putAside) := goodIn_app (goodIn_of _ (by decide +kernel)) ggX3_back_X3_putAside
set_option maxRecDepth 20000 in
theorem ggX3_back_X3_layFrom : GoodIn wsX3_back wsX3_layFrom := goodIn_r _ [21, 1, 13, 14, 15, 16, 4, 17, 22, 23, 24, 25, 26, 27, 28, 29, 30, 31, 32] (by decide +kernel) (by decide +kernel)
set_option maxRecDepth 20000 in
theorem gX3_back_X3_layFrom : GoodIn wsX3_back (wsV RX3 65 RX3 yX3_layFrom wsX3_layFrom) := goodIn_app (goodIn_of _ (by decide +kernel)) ggX3_back_X3_layFrom
theorem dX3_back_0 : decode cX3_back 0 = .ok (.iload_n 1, 1) := by decide +kernel
theorem dX3_back_1 : decode cX3_back 1 = .ok (.invokestatic 43, 3) := by decide +kernel
theorem dX3_back_4 : decode cX3_back 4 = .ok (.ifCond .ne 5, 3) := by decide +kernel
theorem dX3_back_7 : decode cX3_back 7 = .ok (.iconst (-1), 1) := by decide +kernel
theorem dX3_back_8 : decode cX3_back 8 = .ok (.ireturn, 1) := by decide +kernel
theorem dX3_back_9 : decode cX3_back 9 = .ok (.aload_n 0, 1) := by decide +kernel
theorem dX3_back_10 : decode cX3_back 10 = .ok (.iload_n 1, 1) := by decide +kernel
theorem dX3_back_11 : decode cX3_back 11 = .ok (.invokevirtual 61, 3) := by decide +kernel
theorem dX3_back_14 : decode cX3_back 14 = .ok (.aload_n 0, 1) := by decide +kernel
theorem dX3_back_15 : decode cX3_back 15 = .ok (.getfield 7, 3) := by decide +kernel
theorem dX3_back_18 : decode cX3_back 18 = .ok (.iconst 0, 1) := by decide +kernel
theorem dX3_back_19 : decode cX3_back 19 = .ok (.iload_n 1, 1) := by decide +kernel
theorem dX3_back_20 : decode cX3_back 20 = .ok (.iadd, 1) := by decide +kernel
theorem dX3_back_21 : decode cX3_back 21 = .ok (.iaload, 1) := by decide +kernel
theorem dX3_back_22 : decode cX3_back 22 = .ok (.istore_n 2, 1) := by decide +kernel
theorem dX3_back_23 : decode cX3_back 23 = .ok (.iconst 0, 1) := by decide +kernel
theorem dX3_back_24 : decode cX3_back 24 = .ok (.istore_n 3, 1) := by decide +kernel
theorem dX3_back_25 : decode cX3_back 25 = .ok (.iload_n 3, 1) := by decide +kernel
theorem dX3_back_26 : decode cX3_back 26 = .ok (.iload_n 2, 1) := by decide +kernel
theorem dX3_back_27 : decode cX3_back 27 = .ok (.if_icmp .ge 20, 3) := by decide +kernel
theorem dX3_back_30 : decode cX3_back 30 = .ok (.aload_n 0, 1) := by decide +kernel
theorem dX3_back_31 : decode cX3_back 31 = .ok (.iload_n 1, 1) := by decide +kernel
theorem dX3_back_32 : decode cX3_back 32 = .ok (.iload_n 3, 1) := by decide +kernel
theorem dX3_back_33 : decode cX3_back 33 = .ok (.iload_n 2, 1) := by decide +kernel
theorem dX3_back_34 : decode cX3_back 34 = .ok (.iconst 1, 1) := by decide +kernel
theorem dX3_back_35 : decode cX3_back 35 = .ok (.isub, 1) := by decide +kernel
theorem dX3_back_36 : decode cX3_back 36 = .ok (.iload_n 3, 1) := by decide +kernel
theorem dX3_back_37 : decode cX3_back 37 = .ok (.isub, 1) := by decide +kernel
theorem dX3_back_38 : decode cX3_back 38 = .ok (.invokevirtual 65, 3) := by decide +kernel
theorem dX3_back_41 : decode cX3_back 41 = .ok (.iinc 3 1, 3) := by decide +kernel
theorem dX3_back_44 : decode cX3_back 44 = .ok (.goto (-19), 3) := by decide +kernel
theorem dX3_back_47 : decode cX3_back 47 = .ok (.iload_n 2, 1) := by decide +kernel
theorem dX3_back_48 : decode cX3_back 48 = .ok (.ireturn, 1) := by decide +kernel
set_option maxRecDepth 20000 in
theorem ggX3_begin_X3_isLayer : GoodIn wsX3_begin wsX3_isLayer := goodIn_r _ [5, 6, 7, 4, 8] (by decide +kernel) (by decide +kernel)
set_option maxRecDepth 20000 in
theorem gX3_begin_X3_isLayer : GoodIn wsX3_begin (va_wsS RX3 43 yX3_isLayer wsX3_isLayer) := goodIn_app (goodIn_of _ (by decide +kernel)) ggX3_begin_X3_isLayer
set_option maxRecDepth 20000 in
theorem ggX3_begin_X3_isPoint : GoodIn wsX3_begin wsX3_isPoint := goodIn_r _ [12, 1, 6, 7, 4, 8, 26, 27, 28, 29, 30, 31, 32, 33, 34, 35, 36] (by decide +kernel) (by decide +kernel)
set_option maxRecDepth 20000 in
theorem gX3_begin_X3_isPoint : GoodIn wsX3_begin (wsV RX3 55 RX3 yX3_isPoint wsX3_isPoint) := goodIn_app (goodIn_of _ (by decide +kernel)) ggX3_begin_X3_isPoint
set_option maxRecDepth 20000 in
theorem ggX3_begin_X3_putAside : GoodIn wsX3_begin wsX3_putAside := goodIn_r _ [16, 1, 17, 18, 19, 20, 4, 21, 26, 27, 28, 29, 30, 31, 32, 33, 34, 35, 36] (by decide +kernel) (by decide +kernel)
set_option maxRecDepth 20000 in
theorem gX3_begin_X3_putAside : GoodIn wsX3_begin (wsV RX3 61 RX3 yX3_putAside wsX3_putAside) := goodIn_app (goodIn_of _ (by decide +kernel)) ggX3_begin_X3_putAside
set_option maxRecDepth 20000 in
theorem ggX3_begin_X3_layFrom : GoodIn wsX3_begin wsX3_layFrom := goodIn_r _ [25, 1, 17, 18, 19, 20, 4, 21, 26, 27, 28, 29, 30, 31, 32, 33, 34, 35, 36] (by decide +kernel) (by decide +kernel)
set_option maxRecDepth 20000 in
theorem gX3_begin_X3_layFrom : GoodIn wsX3_begin (wsV RX3 65 RX3 yX3_layFrom wsX3_layFrom) := goodIn_app (goodIn_of _ (by decide +kernel)) ggX3_begin_X3_layFrom
theorem dX3_begin_0 : decode cX3_begin 0 = .ok (.iload_n 1, 1) := by decide +kernel
theorem dX3_begin_1 : decode cX3_begin 1 = .ok (.invokestatic 43, 3) := by decide +kernel
theorem dX3_begin_4 : decode cX3_begin 4 = .ok (.ifCond .eq 12, 3) := by decide +kernel
theorem dX3_begin_7 : decode cX3_begin 7 = .ok (.aload_n 0, 1) := by decide +kernel
theorem dX3_begin_8 : decode cX3_begin 8 = .ok (.iload_n 1, 1) := by decide +kernel
theorem dX3_begin_9 : decode cX3_begin 9 = .ok (.iload_n 2, 1) := by decide +kernel
theorem dX3_begin_10 : decode cX3_begin 10 = .ok (.invokevirtual 55, 3) := by decide +kernel
theorem dX3_begin_13 : decode cX3_begin 13 = .ok (.ifCond .ne 5, 3) := by decide +kernel
theorem dX3_begin_16 : decode cX3_begin 16 = .ok (.iconst (-1), 1) := by decide +kernel
theorem dX3_begin_17 : decode cX3_begin 17 = .ok (.ireturn, 1) := by decide +kernel
theorem dX3_begin_18 : decode cX3_begin 18 = .ok (.aload_n 0, 1) := by decide +kernel
theorem dX3_begin_19 : decode cX3_begin 19 = .ok (.iload_n 1, 1) := by decide +kernel
theorem dX3_begin_20 : decode cX3_begin 20 = .ok (.invokevirtual 61, 3) := by decide +kernel
theorem dX3_begin_23 : decode cX3_begin 23 = .ok (.aload_n 0, 1) := by decide +kernel
theorem dX3_begin_24 : decode cX3_begin 24 = .ok (.getfield 7, 3) := by decide +kernel
theorem dX3_begin_27 : decode cX3_begin 27 = .ok (.iconst 0, 1) := by decide +kernel
theorem dX3_begin_28 : decode cX3_begin 28 = .ok (.iload_n 1, 1) := by decide +kernel
theorem dX3_begin_29 : decode cX3_begin 29 = .ok (.iadd, 1) := by decide +kernel
theorem dX3_begin_30 : decode cX3_begin 30 = .ok (.iaload, 1) := by decide +kernel
theorem dX3_begin_31 : decode cX3_begin 31 = .ok (.istore_n 3, 1) := by decide +kernel
theorem dX3_begin_32 : decode cX3_begin 32 = .ok (.iconst 0, 1) := by decide +kernel
theorem dX3_begin_33 : decode cX3_begin 33 = .ok (.istore 4, 2) := by decide +kernel
theorem dX3_begin_35 : decode cX3_begin 35 = .ok (.iload 4, 2) := by decide +kernel
theorem dX3_begin_37 : decode cX3_begin 37 = .ok (.iload_n 3, 1) := by decide +kernel
theorem dX3_begin_38 : decode cX3_begin 38 = .ok (.if_icmp .ge 22, 3) := by decide +kernel
theorem dX3_begin_41 : decode cX3_begin 41 = .ok (.aload_n 0, 1) := by decide +kernel
theorem dX3_begin_42 : decode cX3_begin 42 = .ok (.iload_n 1, 1) := by decide +kernel
theorem dX3_begin_43 : decode cX3_begin 43 = .ok (.iload 4, 2) := by decide +kernel
theorem dX3_begin_45 : decode cX3_begin 45 = .ok (.iload 4, 2) := by decide +kernel
theorem dX3_begin_47 : decode cX3_begin 47 = .ok (.iload_n 2, 1) := by decide +kernel
theorem dX3_begin_48 : decode cX3_begin 48 = .ok (.iadd, 1) := by decide +kernel
theorem dX3_begin_49 : decode cX3_begin 49 = .ok (.iload_n 3, 1) := by decide +kernel
theorem dX3_begin_50 : decode cX3_begin 50 = .ok (.irem, 1) := by decide +kernel
theorem dX3_begin_51 : decode cX3_begin 51 = .ok (.invokevirtual 65, 3) := by decide +kernel
theorem dX3_begin_54 : decode cX3_begin 54 = .ok (.iinc 4 1, 3) := by decide +kernel
theorem dX3_begin_57 : decode cX3_begin 57 = .ok (.goto (-22), 3) := by decide +kernel
theorem dX3_begin_60 : decode cX3_begin 60 = .ok (.iload_n 3, 1) := by decide +kernel
theorem dX3_begin_61 : decode cX3_begin 61 = .ok (.ireturn, 1) := by decide +kernel
set_option maxRecDepth 20000 in
theorem ggX3_at_X3_isLayer : GoodIn wsX3_at wsX3_isLayer := goodIn_r _ [5, 6, 7, 4, 8] (by decide +kernel) (by decide +kernel)
set_option maxRecDepth 20000 in
theorem gX3_at_X3_isLayer : GoodIn wsX3_at (va_wsS RX3 43 yX3_isLayer wsX3_isLayer) := goodIn_app (goodIn_of _ (by decide +kernel)) ggX3_at_X3_isLayer
set_option maxRecDepth 20000 in
theorem ggX3_at_X3_isPoint : GoodIn wsX3_at wsX3_isPoint := goodIn_r _ [12, 1, 6, 7, 4, 8, 16, 17, 18, 19, 20, 21, 22, 23, 24, 25, 26] (by decide +kernel) (by decide +kernel)
set_option maxRecDepth 20000 in
theorem gX3_at_X3_isPoint : GoodIn wsX3_at (wsV RX3 55 RX3 yX3_isPoint wsX3_isPoint) := goodIn_app (goodIn_of _ (by decide +kernel)) ggX3_at_X3_isPoint
set_option maxRecDepth 20000 in
theorem ggX3_at_X3_place : GoodIn wsX3_at wsX3_place := goodIn_r _ [15] (by decide +kernel) (by decide +kernel)
set_option maxRecDepth 20000 in
theorem gX3_at_X3_place : GoodIn wsX3_at (va_wsS RX3 51 yX3_place wsX3_place) := goodIn_app (goodIn_of _ (by decide +kernel)) ggX3_at_X3_place
theorem dX3_at_0 : decode cX3_at 0 = .ok (.iload_n 1, 1) := by decide +kernel
theorem dX3_at_1 : decode cX3_at 1 = .ok (.invokestatic 43, 3) := by decide +kernel
theorem dX3_at_4 : decode cX3_at 4 = .ok (.ifCond .eq 12, 3) := by decide +kernel
theorem dX3_at_7 : decode cX3_at 7 = .ok (.aload_n 0, 1) := by decide +kernel
theorem dX3_at_8 : decode cX3_at 8 = .ok (.iload_n 1, 1) := by decide +kernel
theorem dX3_at_9 : decode cX3_at 9 = .ok (.iload_n 2, 1) := by decide +kernel
theorem dX3_at_10 : decode cX3_at 10 = .ok (.invokevirtual 55, 3) := by decide +kernel
theorem dX3_at_13 : decode cX3_at 13 = .ok (.ifCond .ne 5, 3) := by decide +kernel
theorem dX3_at_16 : decode cX3_at 16 = .ok (.iconst (-1), 1) := by decide +kernel
theorem dX3_at_17 : decode cX3_at 17 = .ok (.ireturn, 1) := by decide +kernel
theorem dX3_at_18 : decode cX3_at 18 = .ok (.iload_n 3, 1) := by decide +kernel
theorem dX3_at_19 : decode cX3_at 19 = .ok (.ifCond .ne 19, 3) := by decide +kernel
theorem dX3_at_22 : decode cX3_at 22 = .ok (.aload_n 0, 1) := by decide +kernel
theorem dX3_at_23 : decode cX3_at 23 = .ok (.getfield 7, 3) := by decide +kernel
theorem dX3_at_26 : decode cX3_at 26 = .ok (.bipush 6, 2) := by decide +kernel
theorem dX3_at_28 : decode cX3_at 28 = .ok (.iload_n 1, 1) := by decide +kernel
theorem dX3_at_29 : decode cX3_at 29 = .ok (.iload_n 2, 1) := by decide +kernel
theorem dX3_at_30 : decode cX3_at 30 = .ok (.invokestatic 51, 3) := by decide +kernel
theorem dX3_at_33 : decode cX3_at 33 = .ok (.iadd, 1) := by decide +kernel
theorem dX3_at_34 : decode cX3_at 34 = .ok (.iaload, 1) := by decide +kernel
theorem dX3_at_35 : decode cX3_at 35 = .ok (.goto 26, 3) := by decide +kernel
theorem dX3_at_38 : decode cX3_at 38 = .ok (.iload_n 3, 1) := by decide +kernel
theorem dX3_at_39 : decode cX3_at 39 = .ok (.iconst 1, 1) := by decide +kernel
theorem dX3_at_40 : decode cX3_at 40 = .ok (.if_icmp .ne 19, 3) := by decide +kernel
theorem dX3_at_43 : decode cX3_at 43 = .ok (.aload_n 0, 1) := by decide +kernel
theorem dX3_at_44 : decode cX3_at 44 = .ok (.getfield 7, 3) := by decide +kernel
theorem dX3_at_47 : decode cX3_at 47 = .ok (.bipush 30, 2) := by decide +kernel
theorem dX3_at_49 : decode cX3_at 49 = .ok (.iload_n 1, 1) := by decide +kernel
theorem dX3_at_50 : decode cX3_at 50 = .ok (.iload_n 2, 1) := by decide +kernel
theorem dX3_at_51 : decode cX3_at 51 = .ok (.invokestatic 51, 3) := by decide +kernel
theorem dX3_at_54 : decode cX3_at 54 = .ok (.iadd, 1) := by decide +kernel
theorem dX3_at_55 : decode cX3_at 55 = .ok (.iaload, 1) := by decide +kernel
theorem dX3_at_56 : decode cX3_at 56 = .ok (.goto 5, 3) := by decide +kernel
theorem dX3_at_59 : decode cX3_at 59 = .ok (.bipush (-2), 2) := by decide +kernel
theorem dX3_at_61 : decode cX3_at 61 = .ok (.ireturn, 1) := by decide +kernel
set_option maxRecDepth 20000 in
theorem ggX3_layPath_X3_place : GoodIn wsX3_layPath wsX3_place := goodIn_r _ [9] (by decide +kernel) (by decide +kernel)
set_option maxRecDepth 20000 in
theorem gX3_layPath_X3_place : GoodIn wsX3_layPath (va_wsS RX3 51 yX3_place wsX3_place) := goodIn_app (goodIn_of _ (by decide +kernel)) ggX3_layPath_X3_place
theorem dX3_layPath_0 : decode cX3_layPath 0 = .ok (.aload_n 0, 1) := by decide +kernel
theorem dX3_layPath_1 : decode cX3_layPath 1 = .ok (.aload_n 0, 1) := by decide +kernel
theorem dX3_layPath_2 : decode cX3_layPath 2 = .ok (.getfield 7, 3) := by decide +kernel
theorem dX3_layPath_5 : decode cX3_layPath 5 = .ok (.iconst 0, 1) := by decide +kernel
theorem dX3_layPath_6 : decode cX3_layPath 6 = .ok (.iload_n 1, 1) := by decide +kernel
