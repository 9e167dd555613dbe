theorem dX3_layPath_7 : decode cX3_layPath 7 = .ok (.iadd, 1) := by decide +kernel
theorem dX3_layPath_8 : decode cX3_layPath 8 = .ok (.iaload, 1) := by decide +kernel
theorem dX3_layPath_9 : decode cX3_layPath 9 = .ok (.putfield 69, 3) := by decide +kernel
theorem dX3_layPath_12 : decode cX3_layPath 12 = .ok (.iconst 0, 1) := by decide +kernel
theorem dX3_layPath_13 : decode cX3_layPath 13 = .ok (.istore 4, 2) := by decide +kernel
theorem dX3_layPath_15 : decode cX3_layPath 15 = .ok (.iload 4, 2) := by decide +kernel
theorem dX3_layPath_17 : decode cX3_layPath 17 = .ok (.aload_n 0, 1) := by decide +kernel
theorem dX3_layPath_18 : decode cX3_layPath 18 = .ok (.getfield 69, 3) := by decide +kernel
theorem dX3_layPath_21 : decode cX3_layPath 21 = .ok (.if_icmp .ge 65, 3) := by decide +kernel
theorem dX3_layPath_24 : decode cX3_layPath 24 = .ok (.aload_n 0, 1) := by decide +kernel
theorem dX3_layPath_25 : decode cX3_layPath 25 = .ok (.getfield 26, 3) := by decide +kernel
theorem dX3_layPath_28 : decode cX3_layPath 28 = .ok (.iload 4, 2) := by decide +kernel
theorem dX3_layPath_30 : decode cX3_layPath 30 = .ok (.ldc2_w 73, 3) := by decide +kernel
theorem dX3_layPath_33 : decode cX3_layPath 33 = .ok (.aload_n 0, 1) := by decide +kernel
theorem dX3_layPath_34 : decode cX3_layPath 34 = .ok (.getfield 7, 3) := by decide +kernel
theorem dX3_layPath_37 : decode cX3_layPath 37 = .ok (.bipush 6, 2) := by decide +kernel
theorem dX3_layPath_39 : decode cX3_layPath 39 = .ok (.iload_n 1, 1) := by decide +kernel
theorem dX3_layPath_40 : decode cX3_layPath 40 = .ok (.iload 4, 2) := by decide +kernel
theorem dX3_layPath_42 : decode cX3_layPath 42 = .ok (.invokestatic 51, 3) := by decide +kernel
theorem dX3_layPath_45 : decode cX3_layPath 45 = .ok (.iadd, 1) := by decide +kernel
theorem dX3_layPath_46 : decode cX3_layPath 46 = .ok (.iaload, 1) := by decide +kernel
theorem dX3_layPath_47 : decode cX3_layPath 47 = .ok (.iload_n 2, 1) := by decide +kernel
theorem dX3_layPath_48 : decode cX3_layPath 48 = .ok (.iadd, 1) := by decide +kernel
theorem dX3_layPath_49 : decode cX3_layPath 49 = .ok (.i2l, 1) := by decide +kernel
theorem dX3_layPath_50 : decode cX3_layPath 50 = .ok (.lmul, 1) := by decide +kernel
theorem dX3_layPath_51 : decode cX3_layPath 51 = .ok (.lastore, 1) := by decide +kernel
theorem dX3_layPath_52 : decode cX3_layPath 52 = .ok (.aload_n 0, 1) := by decide +kernel
theorem dX3_layPath_53 : decode cX3_layPath 53 = .ok (.getfield 30, 3) := by decide +kernel
theorem dX3_layPath_56 : decode cX3_layPath 56 = .ok (.iload 4, 2) := by decide +kernel
theorem dX3_layPath_58 : decode cX3_layPath 58 = .ok (.ldc2_w 73, 3) := by decide +kernel
theorem dX3_layPath_61 : decode cX3_layPath 61 = .ok (.aload_n 0, 1) := by decide +kernel
theorem dX3_layPath_62 : decode cX3_layPath 62 = .ok (.getfield 7, 3) := by decide +kernel
theorem dX3_layPath_65 : decode cX3_layPath 65 = .ok (.bipush 30, 2) := by decide +kernel
theorem dX3_layPath_67 : decode cX3_layPath 67 = .ok (.iload_n 1, 1) := by decide +kernel
theorem dX3_layPath_68 : decode cX3_layPath 68 = .ok (.iload 4, 2) := by decide +kernel
theorem dX3_layPath_70 : decode cX3_layPath 70 = .ok (.invokestatic 51, 3) := by decide +kernel
theorem dX3_layPath_73 : decode cX3_layPath 73 = .ok (.iadd, 1) := by decide +kernel
theorem dX3_layPath_74 : decode cX3_layPath 74 = .ok (.iaload, 1) := by decide +kernel
theorem dX3_layPath_75 : decode cX3_layPath 75 = .ok (.iload_n 3, 1) := by decide +kernel
theorem dX3_layPath_76 : decode cX3_layPath 76 = .ok (.iadd, 1) := by decide +kernel
theorem dX3_layPath_77 : decode cX3_layPath 77 = .ok (.i2l, 1) := by decide +kernel
theorem dX3_layPath_78 : decode cX3_layPath 78 = .ok (.lmul, 1) := by decide +kernel
theorem dX3_layPath_79 : decode cX3_layPath 79 = .ok (.lastore, 1) := by decide +kernel
theorem dX3_layPath_80 : decode cX3_layPath 80 = .ok (.iinc 4 1, 3) := by decide +kernel
theorem dX3_layPath_83 : decode cX3_layPath 83 = .ok (.goto (-68), 3) := by decide +kernel
theorem dX3_layPath_86 : decode cX3_layPath 86 = .ok (.return_, 1) := by decide +kernel
theorem dX3_leave_0 : decode cX3_leave 0 = .ok (.aload_n 0, 1) := by decide +kernel
theorem dX3_leave_1 : decode cX3_leave 1 = .ok (.getfield 33, 3) := by decide +kernel
theorem dX3_leave_4 : decode cX3_leave 4 = .ok (.aload_n 0, 1) := by decide +kernel
theorem dX3_leave_5 : decode cX3_leave 5 = .ok (.getfield 75, 3) := by decide +kernel
theorem dX3_leave_8 : decode cX3_leave 8 = .ok (.lload_n 1, 1) := by decide +kernel
theorem dX3_leave_9 : decode cX3_leave 9 = .ok (.lastore, 1) := by decide +kernel
theorem dX3_leave_10 : decode cX3_leave 10 = .ok (.aload_n 0, 1) := by decide +kernel
theorem dX3_leave_11 : decode cX3_leave 11 = .ok (.getfield 36, 3) := by decide +kernel
theorem dX3_leave_14 : decode cX3_leave 14 = .ok (.aload_n 0, 1) := by decide +kernel
theorem dX3_leave_15 : decode cX3_leave 15 = .ok (.getfield 75, 3) := by decide +kernel
theorem dX3_leave_18 : decode cX3_leave 18 = .ok (.lload_n 3, 1) := by decide +kernel
theorem dX3_leave_19 : decode cX3_leave 19 = .ok (.lastore, 1) := by decide +kernel
theorem dX3_leave_20 : decode cX3_leave 20 = .ok (.aload_n 0, 1) := by decide +kernel
theorem dX3_leave_21 : decode cX3_leave 21 = .ok (.dup, 1) := by decide +kernel
theorem dX3_leave_22 : decode cX3_leave 22 = .ok (.getfield 75, 3) := by decide +kernel
theorem dX3_leave_25 : decode cX3_leave 25 = .ok (.iconst 1, 1) := by decide +kernel
theorem dX3_leave_26 : decode cX3_leave 26 = .ok (.iadd, 1) := by decide +kernel
theorem dX3_leave_27 : decode cX3_leave 27 = .ok (.putfield 75, 3) := by decide +kernel
theorem dX3_leave_30 : decode cX3_leave 30 = .ok (.return_, 1) := by decide +kernel
theorem dX3_within_0 : decode cX3_within 0 = .ok (.iload_n 2, 1) := by decide +kernel
theorem dX3_within_1 : decode cX3_within 1 = .ok (.tableswitch 54 0 2 #[27, 36, 45], 27) := by decide +kernel
theorem dX3_within_28 : decode cX3_within 28 = .ok (.aload_n 0, 1) := by decide +kernel
theorem dX3_within_29 : decode cX3_within 29 = .ok (.getfield 26, 3) := by decide +kernel
theorem dX3_within_32 : decode cX3_within 32 = .ok (.iload_n 1, 1) := by decide +kernel
theorem dX3_within_33 : decode cX3_within 33 = .ok (.laload, 1) := by decide +kernel
theorem dX3_within_34 : decode cX3_within 34 = .ok (.lload_n 3, 1) := by decide +kernel
theorem dX3_within_35 : decode cX3_within 35 = .ok (.lsub, 1) := by decide +kernel
theorem dX3_within_36 : decode cX3_within 36 = .ok (.lreturn, 1) := by decide +kernel
theorem dX3_within_37 : decode cX3_within 37 = .ok (.lload_n 3, 1) := by decide +kernel
theorem dX3_within_38 : decode cX3_within 38 = .ok (.aload_n 0, 1) := by decide +kernel
theorem dX3_within_39 : decode cX3_within 39 = .ok (.getfield 26, 3) := by decide +kernel
theorem dX3_within_42 : decode cX3_within 42 = .ok (.iload_n 1, 1) := by decide +kernel
theorem dX3_within_43 : decode cX3_within 43 = .ok (.laload, 1) := by decide +kernel
theorem dX3_within_44 : decode cX3_within 44 = .ok (.lsub, 1) := by decide +kernel
theorem dX3_within_45 : decode cX3_within 45 = .ok (.lreturn, 1) := by decide +kernel
theorem dX3_within_46 : decode cX3_within 46 = .ok (.aload_n 0, 1) := by decide +kernel
theorem dX3_within_47 : decode cX3_within 47 = .ok (.getfield 30, 3) := by decide +kernel
theorem dX3_within_50 : decode cX3_within 50 = .ok (.iload_n 1, 1) := by decide +kernel
theorem dX3_within_51 : decode cX3_within 51 = .ok (.laload, 1) := by decide +kernel
theorem dX3_within_52 : decode cX3_within 52 = .ok (.lload_n 3, 1) := by decide +kernel
theorem dX3_within_53 : decode cX3_within 53 = .ok (.lsub, 1) := by decide +kernel
theorem dX3_within_54 : decode cX3_within 54 = .ok (.lreturn, 1) := by decide +kernel
theorem dX3_within_55 : decode cX3_within 55 = .ok (.lload_n 3, 1) := by decide +kernel
theorem dX3_within_56 : decode cX3_within 56 = .ok (.aload_n 0, 1) := by decide +kernel
theorem dX3_within_57 : decode cX3_within 57 = .ok (.getfield 30, 3) := by decide +kernel
theorem dX3_within_60 : decode cX3_within 60 = .ok (.iload_n 1, 1) := by decide +kernel
theorem dX3_within_61 : decode cX3_within 61 = .ok (.laload, 1) := by decide +kernel
theorem dX3_within_62 : decode cX3_within 62 = .ok (.lsub, 1) := by decide +kernel
theorem dX3_within_63 : decode cX3_within 63 = .ok (.lreturn, 1) := by decide +kernel
set_option maxRecDepth 20000 in
theorem ggX3_leaveCrossing_X3_leave : GoodIn wsX3_leaveCrossing wsX3_leave := goodIn_r _ [7, 8, 9, 10, 11, 12, 13, 14, 15, 16, 17, 18, 19, 20, 21] (by decide +kernel) (by decide +kernel)
set_option maxRecDepth 20000 in
theorem gX3_leaveCrossing_X3_leave : GoodIn wsX3_leaveCrossing (wsV RX3 78 RX3 yX3_leave wsX3_leave) := goodIn_app (goodIn_of _ (by decide +kernel)) ggX3_leaveCrossing_X3_leave
theorem dX3_leaveCrossing_0 : decode cX3_leaveCrossing 0 = .ok (.iload_n 3, 1) := by decide +kernel
theorem dX3_leaveCrossing_1 : decode cX3_leaveCrossing 1 = .ok (.iconst 2, 1) := by decide +kernel
theorem dX3_leaveCrossing_2 : decode cX3_leaveCrossing 2 = .ok (.if_icmp .ge 56, 3) := by decide +kernel
theorem dX3_leaveCrossing_5 : decode cX3_leaveCrossing 5 = .ok (.aload_n 0, 1) := by decide +kernel
theorem dX3_leaveCrossing_6 : decode cX3_leaveCrossing 6 = .ok (.lload 4, 2) := by decide +kernel
theorem dX3_leaveCrossing_8 : decode cX3_leaveCrossing 8 = .ok (.aload_n 0, 1) := by decide +kernel
theorem dX3_leaveCrossing_9 : decode cX3_leaveCrossing 9 = .ok (.getfield 30, 3) := by decide +kernel
theorem dX3_leaveCrossing_12 : decode cX3_leaveCrossing 12 = .ok (.iload_n 1, 1) := by decide +kernel
theorem dX3_leaveCrossing_13 : decode cX3_leaveCrossing 13 = .ok (.laload, 1) := by decide +kernel
theorem dX3_leaveCrossing_14 : decode cX3_leaveCrossing 14 = .ok (.lload 4, 2) := by decide +kernel
theorem dX3_leaveCrossing_16 : decode cX3_leaveCrossing 16 = .ok (.aload_n 0, 1) := by decide +kernel
theorem dX3_leaveCrossing_17 : decode cX3_leaveCrossing 17 = .ok (.getfield 26, 3) := by decide +kernel
theorem dX3_leaveCrossing_20 : decode cX3_leaveCrossing 20 = .ok (.iload_n 1, 1) := by decide +kernel
theorem dX3_leaveCrossing_21 : decode cX3_leaveCrossing 21 = .ok (.laload, 1) := by decide +kernel
theorem dX3_leaveCrossing_22 : decode cX3_leaveCrossing 22 = .ok (.lsub, 1) := by decide +kernel
theorem dX3_leaveCrossing_23 : decode cX3_leaveCrossing 23 = .ok (.aload_n 0, 1) := by decide +kernel
theorem dX3_leaveCrossing_24 : decode cX3_leaveCrossing 24 = .ok (.getfield 30, 3) := by decide +kernel
theorem dX3_leaveCrossing_27 : decode cX3_leaveCrossing 27 = .ok (.iload_n 2, 1) := by decide +kernel
theorem dX3_leaveCrossing_28 : decode cX3_leaveCrossing 28 = .ok (.laload, 1) := by decide +kernel
theorem dX3_leaveCrossing_29 : decode cX3_leaveCrossing 29 = .ok (.aload_n 0, 1) := by decide +kernel
theorem dX3_leaveCrossing_30 : decode cX3_leaveCrossing 30 = .ok (.getfield 30, 3) := by decide +kernel
theorem dX3_leaveCrossing_33 : decode cX3_leaveCrossing 33 = .ok (.iload_n 1, 1) := by decide +kernel
theorem dX3_leaveCrossing_34 : decode cX3_leaveCrossing 34 = .ok (.laload, 1) := by decide +kernel
theorem dX3_leaveCrossing_35 : decode cX3_leaveCrossing 35 = .ok (.lsub, 1) := by decide +kernel
theorem dX3_leaveCrossing_36 : decode cX3_leaveCrossing 36 = .ok (.lmul, 1) := by decide +kernel
theorem dX3_leaveCrossing_37 : decode cX3_leaveCrossing 37 = .ok (.aload_n 0, 1) := by decide +kernel
theorem dX3_leaveCrossing_38 : decode cX3_leaveCrossing 38 = .ok (.getfield 26, 3) := by decide +kernel
theorem dX3_leaveCrossing_41 : decode cX3_leaveCrossing 41 = .ok (.iload_n 2, 1) := by decide +kernel
theorem dX3_leaveCrossing_42 : decode cX3_leaveCrossing 42 = .ok (.laload, 1) := by decide +kernel
theorem dX3_leaveCrossing_43 : decode cX3_leaveCrossing 43 = .ok (.aload_n 0, 1) := by decide +kernel
theorem dX3_leaveCrossing_44 : decode cX3_leaveCrossing 44 = .ok (.getfield 26, 3) := by decide +kernel
theorem dX3_leaveCrossing_47 : decode cX3_leaveCrossing 47 = .ok (.iload_n 1, 1) := by decide +kernel
theorem dX3_leaveCrossing_48 : decode cX3_leaveCrossing 48 = .ok (.laload, 1) := by decide +kernel
theorem dX3_leaveCrossing_49 : decode cX3_leaveCrossing 49 = .ok (.lsub, 1) := by decide +kernel
theorem dX3_leaveCrossing_50 : decode cX3_leaveCrossing 50 = .ok (.ldiv, 1) := by decide +kernel
theorem dX3_leaveCrossing_51 : decode cX3_leaveCrossing 51 = .ok (.ladd, 1) := by decide +kernel
theorem dX3_leaveCrossing_52 : decode cX3_leaveCrossing 52 = .ok (.invokevirtual 78, 3) := by decide +kernel
theorem dX3_leaveCrossing_55 : decode cX3_leaveCrossing 55 = .ok (.goto 53, 3) := by decide +kernel
theorem dX3_leaveCrossing_58 : decode cX3_leaveCrossing 58 = .ok (.aload_n 0, 1) := by decide +kernel
theorem dX3_leaveCrossing_59 : decode cX3_leaveCrossing 59 = .ok (.aload_n 0, 1) := by decide +kernel
theorem dX3_leaveCrossing_60 : decode cX3_leaveCrossing 60 = .ok (.getfield 26, 3) := by decide +kernel
theorem dX3_leaveCrossing_63 : decode cX3_leaveCrossing 63 = .ok (.iload_n 1, 1) := by decide +kernel
theorem dX3_leaveCrossing_64 : decode cX3_leaveCrossing 64 = .ok (.laload, 1) := by decide +kernel
theorem dX3_leaveCrossing_65 : decode cX3_leaveCrossing 65 = .ok (.lload 4, 2) := by decide +kernel
theorem dX3_leaveCrossing_67 : decode cX3_leaveCrossing 67 = .ok (.aload_n 0, 1) := by decide +kernel
theorem dX3_leaveCrossing_68 : decode cX3_leaveCrossing 68 = .ok (.getfield 30, 3) := by decide +kernel
theorem dX3_leaveCrossing_71 : decode cX3_leaveCrossing 71 = .ok (.iload_n 1, 1) := by decide +kernel
theorem dX3_leaveCrossing_72 : decode cX3_leaveCrossing 72 = .ok (.laload, 1) := by decide +kernel
theorem dX3_leaveCrossing_73 : decode cX3_leaveCrossing 73 = .ok (.lsub, 1) := by decide +kernel
theorem dX3_leaveCrossing_74 : decode cX3_leaveCrossing 74 = .ok (.aload_n 0, 1) := by decide +kernel
theorem dX3_leaveCrossing_75 : decode cX3_leaveCrossing 75 = .ok (.getfield 26, 3) := by decide +kernel
theorem dX3_leaveCrossing_78 : decode cX3_leaveCrossing 78 = .ok (.iload_n 2, 1) := by decide +kernel
theorem dX3_leaveCrossing_79 : decode cX3_leaveCrossing 79 = .ok (.laload, 1) := by decide +kernel
theorem dX3_leaveCrossing_80 : decode cX3_leaveCrossing 80 = .ok (.aload_n 0, 1) := by decide +kernel
theorem dX3_leaveCrossing_81 : decode cX3_leaveCrossing 81 = .ok (.getfield 26, 3) := by decide +kernel
theorem dX3_leaveCrossing_84 : decode cX3_leaveCrossing 84 = .ok (.iload_n 1, 1) := by decide +kernel
theorem dX3_leaveCrossing_85 : decode cX3_leaveCrossing 85 = .ok (.laload, 1) := by decide +kernel
theorem dX3_leaveCrossing_86 : decode cX3_leaveCrossing 86 = .ok (.lsub, 1) := by decide +kernel
theorem dX3_leaveCrossing_87 : decode cX3_leaveCrossing 87 = .ok (.lmul, 1) := by decide +kernel
theorem dX3_leaveCrossing_88 : decode cX3_leaveCrossing 88 = .ok (.aload_n 0, 1) := by decide +kernel
theorem dX3_leaveCrossing_89 : decode cX3_leaveCrossing 89 = .ok (.getfield 30, 3) := by decide +kernel
theorem dX3_leaveCrossing_92 : decode cX3_leaveCrossing 92 = .ok (.iload_n 2, 1) := by decide +kernel
theorem dX3_leaveCrossing_93 : decode cX3_leaveCrossing 93 = .ok (.laload, 1) := by decide +kernel
theorem dX3_leaveCrossing_94 : decode cX3_leaveCrossing 94 = .ok (.aload_n 0, 1) := by decide +kernel
theorem dX3_leaveCrossing_95 : decode cX3_leaveCrossing 95 = .ok (.getfield 30, 3) := by decide +kernel
theorem dX3_leaveCrossing_98 : decode cX3_leaveCrossing 98 = .ok (.iload_n 1, 1) := by decide +kernel
theorem dX3_leaveCrossing_99 : decode cX3_leaveCrossing 99 = .ok (.laload, 1) := by decide +kernel
theorem dX3_leaveCrossing_100 : decode cX3_leaveCrossing 100 = .ok (.lsub, 1) := by decide +kernel
theorem dX3_leaveCrossing_101 : decode cX3_leaveCrossing 101 = .ok (.ldiv, 1) := by decide +kernel
theorem dX3_leaveCrossing_102 : decode cX3_leaveCrossing 102 = .ok (.ladd, 1) := by decide +kernel
theorem dX3_leaveCrossing_103 : decode cX3_leaveCrossing 103 = .ok (.lload 4, 2) := by decide +kernel
theorem dX3_leaveCrossing_105 : decode cX3_leaveCrossing 105 = .ok (.invokevirtual 78, 3) := by decide +kernel
theorem dX3_leaveCrossing_108 : decode cX3_leaveCrossing 108 = .ok (.return_, 1) := by decide +kernel
set_option maxRecDepth 20000 in
theorem ggX3_cutSide_X3_within : GoodIn wsX3_cutSide wsX3_within := goodIn_r _ [11, 3, 4, 20, 21, 22, 23, 24, 25, 26, 27, 28, 29, 30] (by decide +kernel) (by decide +kernel)
set_option maxRecDepth 20000 in
theorem gX3_cutSide_X3_within : GoodIn wsX3_cutSide (wsV RX3 82 RX3 yX3_within wsX3_within) := goodIn_app (goodIn_of _ (by decide +kernel)) ggX3_cutSide_X3_within
set_option maxRecDepth 20000 in
theorem ggX3_cutSide_X3_leave : GoodIn wsX3_cutSide wsX3_leave := goodIn_r _ [15, 5, 1, 6, 20, 21, 22, 23, 24, 25, 26, 27, 28, 29, 30] (by decide +kernel) (by decide +kernel)
set_option maxRecDepth 20000 in
theorem gX3_cutSide_X3_leave : GoodIn wsX3_cutSide (wsV RX3 78 RX3 yX3_leave wsX3_leave) := goodIn_app (goodIn_of _ (by decide +kernel)) ggX3_cutSide_X3_leave
set_option maxRecDepth 20000 in
theorem ggX3_cutSide_X3_leaveCrossing : GoodIn wsX3_cutSide wsX3_leaveCrossing := goodIn_r _ [19, 4, 3, 12, 13, 14, 10, 15, 5, 1, 6, 20, 21, 22, 23, 24, 25, 26, 27, 28, 29, 30] (by decide +kernel) (by decide +kernel)
set_option maxRecDepth 20000 in
theorem gX3_cutSide_X3_leaveCrossing : GoodIn wsX3_cutSide (wsV RX3 86 RX3 yX3_leaveCrossing wsX3_leaveCrossing) := goodIn_app (goodIn_of _ (by decide +kernel)) ggX3_cutSide_X3_leaveCrossing
theorem dX3_cutSide_0 : decode cX3_cutSide 0 = .ok (.aload_n 0, 1) := by decide +kernel
theorem dX3_cutSide_1 : decode cX3_cutSide 1 = .ok (.iconst 0, 1) := by decide +kernel
theorem dX3_cutSide_2 : decode cX3_cutSide 2 = .ok (.putfield 75, 3) := by decide +kernel
theorem dX3_cutSide_5 : decode cX3_cutSide 5 = .ok (.iconst 0, 1) := by decide +kernel
theorem dX3_cutSide_6 : decode cX3_cutSide 6 = .ok (.istore 4, 2) := by decide +kernel
theorem dX3_cutSide_8 : decode cX3_cutSide 8 = .ok (.iload 4, 2) := by decide +kernel
theorem dX3_cutSide_10 : decode cX3_cutSide 10 = .ok (.aload_n 0, 1) := by decide +kernel
theorem dX3_cutSide_11 : decode cX3_cutSide 11 = .ok (.getfield 69, 3) := by decide +kernel
theorem dX3_cutSide_14 : decode cX3_cutSide 14 = .ok (.if_icmp .ge 103, 3) := by decide +kernel
theorem dX3_cutSide_17 : decode cX3_cutSide 17 = .ok (.iload 4, 2) := by decide +kernel
theorem dX3_cutSide_19 : decode cX3_cutSide 19 = .ok (.iconst 1, 1) := by decide +kernel
theorem dX3_cutSide_20 : decode cX3_cutSide 20 = .ok (.iadd, 1) := by decide +kernel
theorem dX3_cutSide_21 : decode cX3_cutSide 21 = .ok (.aload_n 0, 1) := by decide +kernel
theorem dX3_cutSide_22 : decode cX3_cutSide 22 = .ok (.getfield 69, 3) := by decide +kernel
theorem dX3_cutSide_25 : decode cX3_cutSide 25 = .ok (.irem, 1) := by decide +kernel
theorem dX3_cutSide_26 : decode cX3_cutSide 26 = .ok (.istore 5, 2) := by decide +kernel
theorem dX3_cutSide_28 : decode cX3_cutSide 28 = .ok (.aload_n 0, 1) := by decide +kernel
theorem dX3_cutSide_29 : decode cX3_cutSide 29 = .ok (.iload 4, 2) := by decide +kernel
theorem dX3_cutSide_31 : decode cX3_cutSide 31 = .ok (.iload_n 1, 1) := by decide +kernel
theorem dX3_cutSide_32 : decode cX3_cutSide 32 = .ok (.lload_n 2, 1) := by decide +kernel
theorem dX3_cutSide_33 : decode cX3_cutSide 33 = .ok (.invokevirtual 82, 3) := by decide +kernel
theorem dX3_cutSide_36 : decode cX3_cutSide 36 = .ok (.lstore 6, 2) := by decide +kernel
theorem dX3_cutSide_38 : decode cX3_cutSide 38 = .ok (.aload_n 0, 1) := by decide +kernel
theorem dX3_cutSide_39 : decode cX3_cutSide 39 = .ok (.iload 5, 2) := by decide +kernel
theorem dX3_cutSide_41 : decode cX3_cutSide 41 = .ok (.iload_n 1, 1) := by decide +kernel
theorem dX3_cutSide_42 : decode cX3_cutSide 42 = .ok (.lload_n 2, 1) := by decide +kernel
theorem dX3_cutSide_43 : decode cX3_cutSide 43 = .ok (.invokevirtual 82, 3) := by decide +kernel
theorem dX3_cutSide_46 : decode cX3_cutSide 46 = .ok (.lstore 8, 2) := by decide +kernel
theorem dX3_cutSide_48 : decode cX3_cutSide 48 = .ok (.lload 6, 2) := by decide +kernel
theorem dX3_cutSide_50 : decode cX3_cutSide 50 = .ok (.lconst 0, 1) := by decide +kernel
theorem dX3_cutSide_51 : decode cX3_cutSide 51 = .ok (.lcmp, 1) := by decide +kernel
theorem dX3_cutSide_52 : decode cX3_cutSide 52 = .ok (.ifCond .lt 21, 3) := by decide +kernel
theorem dX3_cutSide_55 : decode cX3_cutSide 55 = .ok (.aload_n 0, 1) := by decide +kernel
theorem dX3_cutSide_56 : decode cX3_cutSide 56 = .ok (.aload_n 0, 1) := by decide +kernel
theorem dX3_cutSide_57 : decode cX3_cutSide 57 = .ok (.getfield 26, 3) := by decide +kernel
theorem dX3_cutSide_60 : decode cX3_cutSide 60 = .ok (.iload 4, 2) := by decide +kernel
theorem dX3_cutSide_62 : decode cX3_cutSide 62 = .ok (.laload, 1) := by decide +kernel
theorem dX3_cutSide_63 : decode cX3_cutSide 63 = .ok (.aload_n 0, 1) := by decide +kernel
theorem dX3_cutSide_64 : decode cX3_cutSide 64 = .ok (.getfield 30, 3) := by decide +kernel
theorem dX3_cutSide_67 : decode cX3_cutSide 67 = .ok (.iload 4, 2) := by decide +kernel
theorem dX3_cutSide_69 : decode cX3_cutSide 69 = .ok (.laload, 1) := by decide +kernel
theorem dX3_cutSide_70 : decode cX3_cutSide 70 = .ok (.invokevirtual 78, 3) := by decide +kernel
theorem dX3_cutSide_73 : decode cX3_cutSide 73 = .ok (.lload 6, 2) := by decide +kernel
theorem dX3_cutSide_75 : decode cX3_cutSide 75 = .ok (.lconst 0, 1) := by decide +kernel
theorem dX3_cutSide_76 : decode cX3_cutSide 76 = .ok (.lcmp, 1) := by decide +kernel
theorem dX3_cutSide_77 : decode cX3_cutSide 77 = .ok (.ifCond .ge 10, 3) := by decide +kernel
theorem dX3_cutSide_80 : decode cX3_cutSide 80 = .ok (.lload 8, 2) := by decide +kernel
theorem dX3_cutSide_82 : decode cX3_cutSide 82 = .ok (.lconst 0, 1) := by decide +kernel
theorem dX3_cutSide_83 : decode cX3_cutSide 83 = .ok (.lcmp, 1) := by decide +kernel
theorem dX3_cutSide_84 : decode cX3_cutSide 84 = .ok (.ifCond .gt 17, 3) := by decide +kernel
theorem dX3_cutSide_87 : decode cX3_cutSide 87 = .ok (.lload 6, 2) := by decide +kernel
theorem dX3_cutSide_89 : decode cX3_cutSide 89 = .ok (.lconst 0, 1) := by decide +kernel
theorem dX3_cutSide_90 : decode cX3_cutSide 90 = .ok (.lcmp, 1) := by decide +kernel
theorem dX3_cutSide_91 : decode cX3_cutSide 91 = .ok (.ifCond .le 20, 3) := by decide +kernel
theorem dX3_cutSide_94 : decode cX3_cutSide 94 = .ok (.lload 8, 2) := by decide +kernel
theorem dX3_cutSide_96 : decode cX3_cutSide 96 = .ok (.lconst 0, 1) := by decide +kernel
theorem dX3_cutSide_97 : decode cX3_cutSide 97 = .ok (.lcmp, 1) := by decide +kernel
theorem dX3_cutSide_98 : decode cX3_cutSide 98 = .ok (.ifCond .ge 13, 3) := by decide +kernel
theorem dX3_cutSide_101 : decode cX3_cutSide 101 = .ok (.aload_n 0, 1) := by decide +kernel
theorem dX3_cutSide_102 : decode cX3_cutSide 102 = .ok (.iload 4, 2) := by decide +kernel
theorem dX3_cutSide_104 : decode cX3_cutSide 104 = .ok (.iload 5, 2) := by decide +kernel
theorem dX3_cutSide_106 : decode cX3_cutSide 106 = .ok (.iload_n 1, 1) := by decide +kernel
theorem dX3_cutSide_107 : decode cX3_cutSide 107 = .ok (.lload_n 2, 1) := by decide +kernel
theorem dX3_cutSide_108 : decode cX3_cutSide 108 = .ok (.invokevirtual 86, 3) := by decide +kernel
theorem dX3_cutSide_111 : decode cX3_cutSide 111 = .ok (.iinc 4 1, 3) := by decide +kernel
theorem dX3_cutSide_114 : decode cX3_cutSide 114 = .ok (.goto (-106), 3) := by decide +kernel
theorem dX3_cutSide_117 : decode cX3_cutSide 117 = .ok (.iconst 0, 1) := by decide +kernel
theorem dX3_cutSide_118 : decode cX3_cutSide 118 = .ok (.istore 4, 2) := by decide +kernel
theorem dX3_cutSide_120 : decode cX3_cutSide 120 = .ok (.iload 4, 2) := by decide +kernel
theorem dX3_cutSide_122 : decode cX3_cutSide 122 = .ok (.aload_n 0, 1) := by decide +kernel
theorem dX3_cutSide_123 : decode cX3_cutSide 123 = .ok (.getfield 75, 3) := by decide +kernel
theorem dX3_cutSide_126 : decode cX3_cutSide 126 = .ok (.if_icmp .ge 37, 3) := by decide +kernel
theorem dX3_cutSide_129 : decode cX3_cutSide 129 = .ok (.aload_n 0, 1) := by decide +kernel
theorem dX3_cutSide_130 : decode cX3_cutSide 130 = .ok (.getfield 26, 3) := by decide +kernel
theorem dX3_cutSide_133 : decode cX3_cutSide 133 = .ok (.iload 4, 2) := by decide +kernel
theorem dX3_cutSide_135 : decode cX3_cutSide 135 = .ok (.aload_n 0, 1) := by decide +kernel
theorem dX3_cutSide_136 : decode cX3_cutSide 136 = .ok (.getfield 33, 3) := by decide +kernel
theorem dX3_cutSide_139 : decode cX3_cutSide 139 = .ok (.iload 4, 2) := by decide +kernel
theorem dX3_cutSide_141 : decode cX3_cutSide 141 = .ok (.laload, 1) := by decide +kernel
theorem dX3_cutSide_142 : decode cX3_cutSide 142 = .ok (.lastore, 1) := by decide +kernel
theorem dX3_cutSide_143 : decode cX3_cutSide 143 = .ok (.aload_n 0, 1) := by decide +kernel
theorem dX3_cutSide_144 : decode cX3_cutSide 144 = .ok (.getfield 30, 3) := by decide +kernel
theorem dX3_cutSide_147 : decode cX3_cutSide 147 = .ok (.iload 4, 2) := by decide +kernel
theorem dX3_cutSide_149 : decode cX3_cutSide 149 = .ok (.aload_n 0, 1) := by decide +kernel
theorem dX3_cutSide_150 : decode cX3_cutSide 150 = .ok (.getfield 36, 3) := by decide +kernel
theorem dX3_cutSide_153 : decode cX3_cutSide 153 = .ok (.iload 4, 2) := by decide +kernel
theorem dX3_cutSide_155 : decode cX3_cutSide 155 = .ok (.laload, 1) := by decide +kernel
theorem dX3_cutSide_156 : decode cX3_cutSide 156 = .ok (.lastore, 1) := by decide +kernel
theorem dX3_cutSide_157 : decode cX3_cutSide 157 = .ok (.iinc 4 1, 3) := by decide +kernel
theorem dX3_cutSide_160 : decode cX3_cutSide 160 = .ok (.goto (-40), 3) := by decide +kernel
theorem dX3_cutSide_163 : decode cX3_cutSide 163 = .ok (.aload_n 0, 1) := by decide +kernel
theorem dX3_cutSide_164 : decode cX3_cutSide 164 = .ok (.aload_n 0, 1) := by decide +kernel
theorem dX3_cutSide_165 : decode cX3_cutSide 165 = .ok (.getfield 75, 3) := by decide +kernel
theorem dX3_cutSide_168 : decode cX3_cutSide 168 = .ok (.putfield 69, 3) := by decide +kernel
theorem dX3_cutSide_171 : decode cX3_cutSide 171 = .ok (.return_, 1) := by decide +kernel
theorem dX3_twiceArea_0 : decode cX3_twiceArea 0 = .ok (.lconst 0, 1) := by decide +kernel
theorem dX3_twiceArea_1 : decode cX3_twiceArea 1 = .ok (.lstore_n 1, 1) := by decide +kernel
theorem dX3_twiceArea_2 : decode cX3_twiceArea 2 = .ok (.iconst 0, 1) := by decide +kernel
theorem dX3_twiceArea_3 : decode cX3_twiceArea 3 = .ok (.istore_n 3, 1) := by decide +kernel
theorem dX3_twiceArea_4 : decode cX3_twiceArea 4 = .ok (.iload_n 3, 1) := by decide +kernel
theorem dX3_twiceArea_5 : decode cX3_twiceArea 5 = .ok (.aload_n 0, 1) := by decide +kernel
theorem dX3_twiceArea_6 : decode cX3_twiceArea 6 = .ok (.getfield 69, 3) := by decide +kernel
theorem dX3_twiceArea_9 : decode cX3_twiceArea 9 = .ok (.if_icmp .ge 79, 3) := by decide +kernel
theorem dX3_twiceArea_12 : decode cX3_twiceArea 12 = .ok (.iload_n 3, 1) := by decide +kernel
theorem dX3_twiceArea_13 : decode cX3_twiceArea 13 = .ok (.iconst 1, 1) := by decide +kernel
theorem dX3_twiceArea_14 : decode cX3_twiceArea 14 = .ok (.iadd, 1) := by decide +kernel
theorem dX3_twiceArea_15 : decode cX3_twiceArea 15 = .ok (.aload_n 0, 1) := by decide +kernel
theorem dX3_twiceArea_16 : decode cX3_twiceArea 16 = .ok (.getfield 69, 3) := by decide +kernel
theorem dX3_twiceArea_19 : decode cX3_twiceArea 19 = .ok (.irem, 1) := by decide +kernel
theorem dX3_twiceArea_20 : decode cX3_twiceArea 20 = .ok (.istore 4, 2) := by decide +kernel
theorem dX3_twiceArea_22 : decode cX3_twiceArea 22 = .ok (.lload_n 1, 1) := by decide +kernel
theorem dX3_twiceArea_23 : decode cX3_twiceArea 23 = .ok (.aload_n 0, 1) := by decide +kernel
theorem dX3_twiceArea_24 : decode cX3_twiceArea 24 = .ok (.getfield 26, 3) := by decide +kernel
theorem dX3_twiceArea_27 : decode cX3_twiceArea 27 = .ok (.iload_n 3, 1) := by decide +kernel
theorem dX3_twiceArea_28 : decode cX3_twiceArea 28 = .ok (.laload, 1) := by decide +kernel
theorem dX3_twiceArea_29 : decode cX3_twiceArea 29 = .ok (.aload_n 0, 1) := by decide +kernel
theorem dX3_twiceArea_30 : decode cX3_twiceArea 30 = .ok (.getfield 26, 3) := by decide +kernel
theorem dX3_twiceArea_33 : decode cX3_twiceArea 33 = .ok (.iconst 0, 1) := by decide +kernel
theorem dX3_twiceArea_34 : decode cX3_twiceArea 34 = .ok (.laload, 1) := by decide +kernel
theorem dX3_twiceArea_35 : decode cX3_twiceArea 35 = .ok (.lsub, 1) := by decide +kernel
theorem dX3_twiceArea_36 : decode cX3_twiceArea 36 = .ok (.aload_n 0, 1) := by decide +kernel
theorem dX3_twiceArea_37 : decode cX3_twiceArea 37 = .ok (.getfield 30, 3) := by decide +kernel
theorem dX3_twiceArea_40 : decode cX3_twiceArea 40 = .ok (.iload 4, 2) := by decide +kernel
theorem dX3_twiceArea_42 : decode cX3_twiceArea 42 = .ok (.laload, 1) := by decide +kernel
theorem dX3_twiceArea_43 : decode cX3_twiceArea 43 = .ok (.aload_n 0, 1) := by decide +kernel
theorem dX3_twiceArea_44 : decode cX3_twiceArea 44 = .ok (.getfield 30, 3) := by decide +kernel
theorem dX3_twiceArea_47 : decode cX3_twiceArea 47 = .ok (.iconst 0, 1) := by decide +kernel
theorem dX3_twiceArea_48 : decode cX3_twiceArea 48 = .ok (.laload, 1) := by decide +kernel
theorem dX3_twiceArea_49 : decode cX3_twiceArea 49 = .ok (.lsub, 1) := by decide +kernel
theorem dX3_twiceArea_50 : decode cX3_twiceArea 50 = .ok (.lmul, 1) := by decide +kernel
theorem dX3_twiceArea_51 : decode cX3_twiceArea 51 = .ok (.aload_n 0, 1) := by decide +kernel
theorem dX3_twiceArea_52 : decode cX3_twiceArea 52 = .ok (.getfield 26, 3) := by decide +kernel
theorem dX3_twiceArea_55 : decode cX3_twiceArea 55 = .ok (.iload 4, 2) := by decide +kernel
theorem dX3_twiceArea_57 : decode cX3_twiceArea 57 = .ok (.laload, 1) := by decide +kernel
theorem dX3_twiceArea_58 : decode cX3_twiceArea 58 = .ok (.aload_n 0, 1) := by decide +kernel
theorem dX3_twiceArea_59 : decode cX3_twiceArea 59 = .ok (.getfield 26, 3) := by decide +kernel
theorem dX3_twiceArea_62 : decode cX3_twiceArea 62 = .ok (.iconst 0, 1) := by decide +kernel
theorem dX3_twiceArea_63 : decode cX3_twiceArea 63 = .ok (.laload, 1) := by decide +kernel
theorem dX3_twiceArea_64 : decode cX3_twiceArea 64 = .ok (.lsub, 1) := by decide +kernel
theorem dX3_twiceArea_65 : decode cX3_twiceArea 65 = .ok (.aload_n 0, 1) := by decide +kernel
theorem dX3_twiceArea_66 : decode cX3_twiceArea 66 = .ok (.getfield 30, 3) := by decide +kernel
theorem dX3_twiceArea_69 : decode cX3_twiceArea 69 = .ok (.iload_n 3, 1) := by decide +kernel
theorem dX3_twiceArea_70 : decode cX3_twiceArea 70 = .ok (.laload, 1) := by decide +kernel
theorem dX3_twiceArea_71 : decode cX3_twiceArea 71 = .ok (.aload_n 0, 1) := by decide +kernel
theorem dX3_twiceArea_72 : decode cX3_twiceArea 72 = .ok (.getfield 30, 3) := by decide +kernel
theorem dX3_twiceArea_75 : decode cX3_twiceArea 75 = .ok (.iconst 0, 1) := by decide +kernel
theorem dX3_twiceArea_76 : decode cX3_twiceArea 76 = .ok (.laload, 1) := by decide +kernel
theorem dX3_twiceArea_77 : decode cX3_twiceArea 77 = .ok (.lsub, 1) := by decide +kernel
theorem dX3_twiceArea_78 : decode cX3_twiceArea 78 = .ok (.lmul, 1) := by decide +kernel
theorem dX3_twiceArea_79 : decode cX3_twiceArea 79 = .ok (.lsub, 1) := by decide +kernel
theorem dX3_twiceArea_80 : decode cX3_twiceArea 80 = .ok (.ladd, 1) := by decide +kernel
theorem dX3_twiceArea_81 : decode cX3_twiceArea 81 = .ok (.lstore_n 1, 1) := by decide +kernel
theorem dX3_twiceArea_82 : decode cX3_twiceArea 82 = .ok (.iinc 3 1, 3) := by decide +kernel
theorem dX3_twiceArea_85 : decode cX3_twiceArea 85 = .ok (.goto (-81), 3) := by decide +kernel
theorem dX3_twiceArea_88 : decode cX3_twiceArea 88 = .ok (.lload_n 1, 1) := by decide +kernel
theorem dX3_twiceArea_89 : decode cX3_twiceArea 89 = .ok (.lreturn, 1) := by decide +kernel
set_option maxRecDepth 20000 in
theorem ggX3_rawOf_X3_layPath : GoodIn wsX3_rawOf wsX3_layPath := goodIn_r _ [7, 8, 9, 10, 2, 11, 12, 13, 6, 14, 38, 39, 40, 41, 42, 43, 44, 45, 46, 47, 48] (by decide +kernel) (by decide +kernel)
set_option maxRecDepth 20000 in
theorem gX3_rawOf_X3_layPath : GoodIn wsX3_rawOf (wsV RX3 90 RX3 yX3_layPath wsX3_layPath) := goodIn_app (goodIn_of _ (by decide +kernel)) ggX3_rawOf_X3_layPath
set_option maxRecDepth 20000 in
theorem ggX3_rawOf_X3_cutSide : GoodIn wsX3_rawOf wsX3_cutSide := goodIn_r _ [18, 19, 9, 10, 11, 20, 21, 22, 23, 24, 6, 25, 26, 27, 28, 29, 30, 31, 32, 33, 38, 39, 40, 41, 42, 43, 44, 45, 46, 47, 48] (by decide +kernel) (by decide +kernel)
set_option maxRecDepth 20000 in
theorem gX3_rawOf_X3_cutSide : GoodIn wsX3_rawOf (wsV RX3 95 RX3 yX3_cutSide wsX3_cutSide) := goodIn_app (goodIn_of _ (by decide +kernel)) ggX3_rawOf_X3_cutSide
set_option maxRecDepth 20000 in
theorem ggX3_rawOf_X3_twiceArea : GoodIn wsX3_rawOf wsX3_twiceArea := goodIn_r _ [37, 9, 10, 11, 38, 39, 40, 41, 42, 43, 44, 45, 46, 47, 48] (by decide +kernel) (by decide +kernel)
set_option maxRecDepth 20000 in
theorem gX3_rawOf_X3_twiceArea : GoodIn wsX3_rawOf (wsV RX3 99 RX3 yX3_twiceArea wsX3_twiceArea) := goodIn_app (goodIn_of _ (by decide +kernel)) ggX3_rawOf_X3_twiceArea
theorem dX3_rawOf_0 : decode cX3_rawOf 0 = .ok (.aload_n 0, 1) := by decide +kernel
theorem dX3_rawOf_1 : decode cX3_rawOf 1 = .ok (.iload_n 1, 1) := by decide +kernel
theorem dX3_rawOf_2 : decode cX3_rawOf 2 = .ok (.iload_n 3, 1) := by decide +kernel
theorem dX3_rawOf_3 : decode cX3_rawOf 3 = .ok (.iload 4, 2) := by decide +kernel
theorem dX3_rawOf_5 : decode cX3_rawOf 5 = .ok (.invokevirtual 90, 3) := by decide +kernel
theorem dX3_rawOf_8 : decode cX3_rawOf 8 = .ok (.ldc2_w 93, 3) := by decide +kernel
theorem dX3_rawOf_11 : decode cX3_rawOf 11 = .ok (.iload_n 2, 1) := by decide +kernel
theorem dX3_rawOf_12 : decode cX3_rawOf 12 = .ok (.iconst 4, 1) := by decide +kernel
theorem dX3_rawOf_13 : decode cX3_rawOf 13 = .ok (.irem, 1) := by decide +kernel
theorem dX3_rawOf_14 : decode cX3_rawOf 14 = .ok (.i2l, 1) := by decide +kernel
theorem dX3_rawOf_15 : decode cX3_rawOf 15 = .ok (.lmul, 1) := by decide +kernel
theorem dX3_rawOf_16 : decode cX3_rawOf 16 = .ok (.lstore 5, 2) := by decide +kernel
theorem dX3_rawOf_18 : decode cX3_rawOf 18 = .ok (.ldc2_w 93, 3) := by decide +kernel
theorem dX3_rawOf_21 : decode cX3_rawOf 21 = .ok (.iload_n 2, 1) := by decide +kernel
theorem dX3_rawOf_22 : decode cX3_rawOf 22 = .ok (.iconst 4, 1) := by decide +kernel
theorem dX3_rawOf_23 : decode cX3_rawOf 23 = .ok (.idiv, 1) := by decide +kernel
theorem dX3_rawOf_24 : decode cX3_rawOf 24 = .ok (.i2l, 1) := by decide +kernel
theorem dX3_rawOf_25 : decode cX3_rawOf 25 = .ok (.lmul, 1) := by decide +kernel
theorem dX3_rawOf_26 : decode cX3_rawOf 26 = .ok (.lstore 7, 2) := by decide +kernel
theorem dX3_rawOf_28 : decode cX3_rawOf 28 = .ok (.aload_n 0, 1) := by decide +kernel
theorem dX3_rawOf_29 : decode cX3_rawOf 29 = .ok (.iconst 0, 1) := by decide +kernel
theorem dX3_rawOf_30 : decode cX3_rawOf 30 = .ok (.lload 5, 2) := by decide +kernel
theorem dX3_rawOf_32 : decode cX3_rawOf 32 = .ok (.invokevirtual 95, 3) := by decide +kernel
theorem dX3_rawOf_35 : decode cX3_rawOf 35 = .ok (.aload_n 0, 1) := by decide +kernel
theorem dX3_rawOf_36 : decode cX3_rawOf 36 = .ok (.iconst 1, 1) := by decide +kernel
theorem dX3_rawOf_37 : decode cX3_rawOf 37 = .ok (.lload 5, 2) := by decide +kernel
theorem dX3_rawOf_39 : decode cX3_rawOf 39 = .ok (.ldc2_w 93, 3) := by decide +kernel
theorem dX3_rawOf_42 : decode cX3_rawOf 42 = .ok (.ladd, 1) := by decide +kernel
theorem dX3_rawOf_43 : decode cX3_rawOf 43 = .ok (.invokevirtual 95, 3) := by decide +kernel
theorem dX3_rawOf_46 : decode cX3_rawOf 46 = .ok (.aload_n 0, 1) := by decide +kernel
theorem dX3_rawOf_47 : decode cX3_rawOf 47 = .ok (.iconst 2, 1) := by decide +kernel
theorem dX3_rawOf_48 : decode cX3_rawOf 48 = .ok (.lload 7, 2) := by decide +kernel
theorem dX3_rawOf_50 : decode cX3_rawOf 50 = .ok (.invokevirtual 95, 3) := by decide +kernel
theorem dX3_rawOf_53 : decode cX3_rawOf 53 = .ok (.aload_n 0, 1) := by decide +kernel
theorem dX3_rawOf_54 : decode cX3_rawOf 54 = .ok (.iconst 3, 1) := by decide +kernel
theorem dX3_rawOf_55 : decode cX3_rawOf 55 = .ok (.lload 7, 2) := by decide +kernel
theorem dX3_rawOf_57 : decode cX3_rawOf 57 = .ok (.ldc2_w 93, 3) := by decide +kernel
theorem dX3_rawOf_60 : decode cX3_rawOf 60 = .ok (.ladd, 1) := by decide +kernel
theorem dX3_rawOf_61 : decode cX3_rawOf 61 = .ok (.invokevirtual 95, 3) := by decide +kernel
theorem dX3_rawOf_64 : decode cX3_rawOf 64 = .ok (.aload_n 0, 1) := by decide +kernel
theorem dX3_rawOf_65 : decode cX3_rawOf 65 = .ok (.invokevirtual 99, 3) := by decide +kernel
theorem dX3_rawOf_68 : decode cX3_rawOf 68 = .ok (.ldc2_w 73, 3) := by decide +kernel
theorem dX3_rawOf_71 : decode cX3_rawOf 71 = .ok (.ldiv, 1) := by decide +kernel
theorem dX3_rawOf_72 : decode cX3_rawOf 72 = .ok (.lreturn, 1) := by decide +kernel
theorem dX3_plain_0 : decode cX3_plain 0 = .ok (.lload_n 0, 1) := by decide +kernel
theorem dX3_plain_1 : decode cX3_plain 1 = .ok (.lconst 0, 1) := by decide +kernel
theorem dX3_plain_2 : decode cX3_plain 2 = .ok (.lcmp, 1) := by decide +kernel
theorem dX3_plain_3 : decode cX3_plain 3 = .ok (.ifCond .ge 8, 3) := by decide +kernel
theorem dX3_plain_6 : decode cX3_plain 6 = .ok (.lload_n 0, 1) := by decide +kernel
theorem dX3_plain_7 : decode cX3_plain 7 = .ok (.lneg, 1) := by decide +kernel
theorem dX3_plain_8 : decode cX3_plain 8 = .ok (.goto 4, 3) := by decide +kernel
theorem dX3_plain_11 : decode cX3_plain 11 = .ok (.lload_n 0, 1) := by decide +kernel
theorem dX3_plain_12 : decode cX3_plain 12 = .ok (.lreturn, 1) := by decide +kernel
set_option maxRecDepth 20000 in
theorem ggX3_coverMoved_X3_rawOf : GoodIn wsX3_coverMoved wsX3_rawOf := goodIn_r _ [8, 9, 10, 11, 12, 13, 7, 14, 1, 15, 16, 17, 18, 19, 20, 21, 22, 23, 24, 25, 26, 27, 28, 29, 30, 31, 32, 33, 34, 35, 36, 37, 38, 39, 40, 41, 42, 43, 47, 48, 49, 50, 51, 52, 53, 54, 55, 56, 57] (by decide +kernel) (by decide +kernel)
set_option maxRecDepth 20000 in
theorem gX3_coverMoved_X3_rawOf : GoodIn wsX3_coverMoved (wsV RX3 103 RX3 yX3_rawOf wsX3_rawOf) := goodIn_app (goodIn_of _ (by decide +kernel)) ggX3_coverMoved_X3_rawOf
set_option maxRecDepth 20000 in
theorem ggX3_coverMoved_X3_plain : GoodIn wsX3_coverMoved wsX3_plain := goodIn_r _ [46] (by decide +kernel) (by decide +kernel)
set_option maxRecDepth 20000 in
theorem gX3_coverMoved_X3_plain : GoodIn wsX3_coverMoved (va_wsS RX3 107 yX3_plain wsX3_plain) := goodIn_app (goodIn_of _ (by decide +kernel)) ggX3_coverMoved_X3_plain
theorem dX3_coverMoved_0 : decode cX3_coverMoved 0 = .ok (.aload_n 0, 1) := by decide +kernel
theorem dX3_coverMoved_1 : decode cX3_coverMoved 1 = .ok (.iload_n 1, 1) := by decide +kernel
theorem dX3_coverMoved_2 : decode cX3_coverMoved 2 = .ok (.iload_n 2, 1) := by decide +kernel
theorem dX3_coverMoved_3 : decode cX3_coverMoved 3 = .ok (.iload_n 3, 1) := by decide +kernel
theorem dX3_coverMoved_4 : decode cX3_coverMoved 4 = .ok (.iload 4, 2) := by decide +kernel
theorem dX3_coverMoved_6 : decode cX3_coverMoved 6 = .ok (.invokevirtual 103, 3) := by decide +kernel
theorem dX3_coverMoved_9 : decode cX3_coverMoved 9 = .ok (.invokestatic 107, 3) := by decide +kernel
theorem dX3_coverMoved_12 : decode cX3_coverMoved 12 = .ok (.lstore 5, 2) := by decide +kernel
theorem dX3_coverMoved_14 : decode cX3_coverMoved 14 = .ok (.aload_n 0, 1) := by decide +kernel
theorem dX3_coverMoved_15 : decode cX3_coverMoved 15 = .ok (.getfield 7, 3) := by decide +kernel
theorem dX3_coverMoved_18 : decode cX3_coverMoved 18 = .ok (.iconst 3, 1) := by decide +kernel
theorem dX3_coverMoved_19 : decode cX3_coverMoved 19 = .ok (.iload_n 1, 1) := by decide +kernel
theorem dX3_coverMoved_20 : decode cX3_coverMoved 20 = .ok (.iadd, 1) := by decide +kernel
theorem dX3_coverMoved_21 : decode cX3_coverMoved 21 = .ok (.iaload, 1) := by decide +kernel
theorem dX3_coverMoved_22 : decode cX3_coverMoved 22 = .ok (.ifCond .ne 21, 3) := by decide +kernel
theorem dX3_coverMoved_25 : decode cX3_coverMoved 25 = .ok (.lload 5, 2) := by decide +kernel
theorem dX3_coverMoved_27 : decode cX3_coverMoved 27 = .ok (.ldc2_w 111, 3) := by decide +kernel
theorem dX3_coverMoved_30 : decode cX3_coverMoved 30 = .ok (.lcmp, 1) := by decide +kernel
theorem dX3_coverMoved_31 : decode cX3_coverMoved 31 = .ok (.ifCond .le 9, 3) := by decide +kernel
theorem dX3_coverMoved_34 : decode cX3_coverMoved 34 = .ok (.ldc2_w 111, 3) := by decide +kernel
theorem dX3_coverMoved_37 : decode cX3_coverMoved 37 = .ok (.goto 5, 3) := by decide +kernel
theorem dX3_coverMoved_40 : decode cX3_coverMoved 40 = .ok (.lload 5, 2) := by decide +kernel
theorem dX3_coverMoved_42 : decode cX3_coverMoved 42 = .ok (.lreturn, 1) := by decide +kernel
theorem dX3_coverMoved_43 : decode cX3_coverMoved 43 = .ok (.lload 5, 2) := by decide +kernel
theorem dX3_coverMoved_45 : decode cX3_coverMoved 45 = .ok (.ldc2_w 113, 3) := by decide +kernel
theorem dX3_coverMoved_48 : decode cX3_coverMoved 48 = .ok (.lrem, 1) := by decide +kernel
theorem dX3_coverMoved_49 : decode cX3_coverMoved 49 = .ok (.lstore 7, 2) := by decide +kernel
theorem dX3_coverMoved_51 : decode cX3_coverMoved 51 = .ok (.lload 7, 2) := by decide +kernel
theorem dX3_coverMoved_53 : decode cX3_coverMoved 53 = .ok (.ldc2_w 111, 3) := by decide +kernel
theorem dX3_coverMoved_56 : decode cX3_coverMoved 56 = .ok (.lcmp, 1) := by decide +kernel
theorem dX3_coverMoved_57 : decode cX3_coverMoved 57 = .ok (.ifCond .le 12, 3) := by decide +kernel
theorem dX3_coverMoved_60 : decode cX3_coverMoved 60 = .ok (.ldc2_w 113, 3) := by decide +kernel
theorem dX3_coverMoved_63 : decode cX3_coverMoved 63 = .ok (.lload 7, 2) := by decide +kernel
theorem dX3_coverMoved_65 : decode cX3_coverMoved 65 = .ok (.lsub, 1) := by decide +kernel
theorem dX3_coverMoved_66 : decode cX3_coverMoved 66 = .ok (.goto 5, 3) := by decide +kernel
theorem dX3_coverMoved_69 : decode cX3_coverMoved 69 = .ok (.lload 7, 2) := by decide +kernel
theorem dX3_coverMoved_71 : decode cX3_coverMoved 71 = .ok (.lreturn, 1) := by decide +kernel
set_option maxRecDepth 20000 in
theorem ggX3_coverOf_X3_coverMoved : GoodIn wsX3_coverOf wsX3_coverMoved := goodIn_r _ [5, 6, 7, 8, 9, 10, 11, 4, 12, 13, 14, 15, 16, 17, 18, 19, 20, 21, 22, 23, 24, 25, 26, 27, 28, 29, 30, 31, 32, 33, 34, 35, 36, 37, 38, 39, 40, 41, 42, 43, 44, 45, 46, 47, 48, 49, 50, 51, 52, 53, 54, 55, 56, 57, 58, 59, 60, 61] (by decide +kernel) (by decide +kernel)
set_option maxRecDepth 20000 in
theorem gX3_coverOf_X3_coverMoved : GoodIn wsX3_coverOf (wsV RX3 115 RX3 yX3_coverMoved wsX3_coverMoved) := goodIn_app (goodIn_of _ (by decide +kernel)) ggX3_coverOf_X3_coverMoved
theorem dX3_coverOf_0 : decode cX3_coverOf 0 = .ok (.aload_n 0, 1) := by decide +kernel
theorem dX3_coverOf_1 : decode cX3_coverOf 1 = .ok (.iload_n 1, 1) := by decide +kernel
theorem dX3_coverOf_2 : decode cX3_coverOf 2 = .ok (.iload_n 2, 1) := by decide +kernel
theorem dX3_coverOf_3 : decode cX3_coverOf 3 = .ok (.iconst 0, 1) := by decide +kernel
theorem dX3_coverOf_4 : decode cX3_coverOf 4 = .ok (.iconst 0, 1) := by decide +kernel
theorem dX3_coverOf_5 : decode cX3_coverOf 5 = .ok (.invokevirtual 115, 3) := by decide +kernel
theorem dX3_coverOf_8 : decode cX3_coverOf 8 = .ok (.lreturn, 1) := by decide +kernel
theorem dX3_common_0 : decode cX3_common 0 = .ok (.lload_n 0, 1) := by decide +kernel
theorem dX3_common_1 : decode cX3_common 1 = .ok (.lstore 4, 2) := by decide +kernel
theorem dX3_common_3 : decode cX3_common 3 = .ok (.lload_n 2, 1) := by decide +kernel
theorem dX3_common_4 : decode cX3_common 4 = .ok (.lstore 6, 2) := by decide +kernel
theorem dX3_common_6 : decode cX3_common 6 = .ok (.lload 6, 2) := by decide +kernel
theorem dX3_common_8 : decode cX3_common 8 = .ok (.lconst 0, 1) := by decide +kernel
theorem dX3_common_9 : decode cX3_common 9 = .ok (.lcmp, 1) := by decide +kernel
theorem dX3_common_10 : decode cX3_common 10 = .ok (.ifCond .eq 21, 3) := by decide +kernel
theorem dX3_common_13 : decode cX3_common 13 = .ok (.lload 4, 2) := by decide +kernel
theorem dX3_common_15 : decode cX3_common 15 = .ok (.lload 6, 2) := by decide +kernel
theorem dX3_common_17 : decode cX3_common 17 = .ok (.lrem, 1) := by decide +kernel
theorem dX3_common_18 : decode cX3_common 18 = .ok (.lstore 8, 2) := by decide +kernel
theorem dX3_common_20 : decode cX3_common 20 = .ok (.lload 6, 2) := by decide +kernel
theorem dX3_common_22 : decode cX3_common 22 = .ok (.lstore 4, 2) := by decide +kernel
theorem dX3_common_24 : decode cX3_common 24 = .ok (.lload 8, 2) := by decide +kernel
theorem dX3_common_26 : decode cX3_common 26 = .ok (.lstore 6, 2) := by decide +kernel
theorem dX3_common_28 : decode cX3_common 28 = .ok (.goto (-22), 3) := by decide +kernel
theorem dX3_common_31 : decode cX3_common 31 = .ok (.lload 4, 2) := by decide +kernel
theorem dX3_common_33 : decode cX3_common 33 = .ok (.lreturn, 1) := by decide +kernel
set_option maxRecDepth 20000 in
theorem ggX3_told_X3_plain : GoodIn wsX3_told wsX3_plain := goodIn_r _ [4] (by decide +kernel) (by decide +kernel)
set_option maxRecDepth 20000 in
theorem gX3_told_X3_plain : GoodIn wsX3_told (va_wsS RX3 107 yX3_plain wsX3_plain) := goodIn_app (goodIn_of _ (by decide +kernel)) ggX3_told_X3_plain
set_option maxRecDepth 20000 in
theorem ggX3_told_X3_common : GoodIn wsX3_told wsX3_common := goodIn_r _ [7] (by decide +kernel) (by decide +kernel)
set_option maxRecDepth 20000 in
theorem gX3_told_X3_common : GoodIn wsX3_told (va_wsS RX3 118 yX3_common wsX3_common) := goodIn_app (goodIn_of _ (by decide +kernel)) ggX3_told_X3_common
theorem dX3_told_0 : decode cX3_told 0 = .ok (.lload_n 2, 1) := by decide +kernel
theorem dX3_told_1 : decode cX3_told 1 = .ok (.lload_n 0, 1) := by decide +kernel
theorem dX3_told_2 : decode cX3_told 2 = .ok (.invokestatic 107, 3) := by decide +kernel
theorem dX3_told_5 : decode cX3_told 5 = .ok (.invokestatic 118, 3) := by decide +kernel
theorem dX3_told_8 : decode cX3_told 8 = .ok (.lstore 5, 2) := by decide +kernel
theorem dX3_told_10 : decode cX3_told 10 = .ok (.iload 4, 2) := by decide +kernel
theorem dX3_told_12 : decode cX3_told 12 = .ok (.ifCond .ne 10, 3) := by decide +kernel
theorem dX3_told_15 : decode cX3_told 15 = .ok (.lload_n 0, 1) := by decide +kernel
theorem dX3_told_16 : decode cX3_told 16 = .ok (.lload 5, 2) := by decide +kernel
theorem dX3_told_18 : decode cX3_told 18 = .ok (.ldiv, 1) := by decide +kernel
theorem dX3_told_19 : decode cX3_told 19 = .ok (.goto 7, 3) := by decide +kernel
theorem dX3_told_22 : decode cX3_told 22 = .ok (.lload_n 2, 1) := by decide +kernel
theorem dX3_told_23 : decode cX3_told 23 = .ok (.lload 5, 2) := by decide +kernel
theorem dX3_told_25 : decode cX3_told 25 = .ok (.ldiv, 1) := by decide +kernel
theorem dX3_told_26 : decode cX3_told 26 = .ok (.lreturn, 1) := by decide +kernel
set_option maxRecDepth 20000 in
theorem ggX3_isPart_X3_in : GoodIn wsX3_isPart wsX3_in := goodIn_r _ [4] (by decide +kernel) (by decide +kernel)
set_option maxRecDepth 20000 in
theorem gX3_isPart_X3_in : GoodIn wsX3_isPart (va_wsS RX3 39 yX3_in wsX3_in) := goodIn_app (goodIn_of _ (by decide +kernel)) ggX3_isPart_X3_in
theorem dX3_isPart_0 : decode cX3_isPart 0 = .ok (.iload_n 0, 1) := by decide +kernel
theorem dX3_isPart_1 : decode cX3_isPart 1 = .ok (.iconst 0, 1) := by decide +kernel
theorem dX3_isPart_2 : decode cX3_isPart 2 = .ok (.iconst 1, 1) := by decide +kernel
theorem dX3_isPart_3 : decode cX3_isPart 3 = .ok (.invokestatic 39, 3) := by decide +kernel
theorem dX3_isPart_6 : decode cX3_isPart 6 = .ok (.ireturn, 1) := by decide +kernel
set_option maxRecDepth 20000 in
theorem ggX3_raw_X3_isLayer : GoodIn wsX3_raw wsX3_isLayer := goodIn_r _ [7, 8, 9, 6, 10] (by decide +kernel) (by decide +kernel)
set_option maxRecDepth 20000 in
theorem gX3_raw_X3_isLayer : GoodIn wsX3_raw (va_wsS RX3 43 yX3_isLayer wsX3_isLayer) := goodIn_app (goodIn_of _ (by decide +kernel)) ggX3_raw_X3_isLayer
set_option maxRecDepth 20000 in
theorem ggX3_raw_X3_isDot : GoodIn wsX3_raw wsX3_isDot := goodIn_r _ [13, 8, 9, 6, 10] (by decide +kernel) (by decide +kernel)
set_option maxRecDepth 20000 in
theorem gX3_raw_X3_isDot : GoodIn wsX3_raw (va_wsS RX3 122 yX3_isDot wsX3_isDot) := goodIn_app (goodIn_of _ (by decide +kernel)) ggX3_raw_X3_isDot
set_option maxRecDepth 20000 in
theorem ggX3_raw_X3_isPart : GoodIn wsX3_raw wsX3_isPart := goodIn_r _ [16, 8, 9, 6, 10] (by decide +kernel) (by decide +kernel)
set_option maxRecDepth 20000 in
theorem gX3_raw_X3_isPart : GoodIn wsX3_raw (va_wsS RX3 127 yX3_isPart wsX3_isPart) := goodIn_app (goodIn_of _ (by decide +kernel)) ggX3_raw_X3_isPart
set_option maxRecDepth 20000 in
theorem ggX3_raw_X3_rawOf : GoodIn wsX3_raw wsX3_rawOf := goodIn_r _ [20, 21, 22, 23, 24, 25, 6, 26, 27, 28, 29, 30, 31, 32, 33, 34, 35, 36, 37, 38, 39, 40, 41, 42, 43, 44, 45, 46, 47, 48, 49, 50, 51, 52, 53, 54, 55, 56, 66, 67, 68, 69, 70, 71, 72, 73, 74, 75, 76] (by decide +kernel) (by decide +kernel)
set_option maxRecDepth 20000 in
theorem gX3_raw_X3_rawOf : GoodIn wsX3_raw (wsV RX3 103 RX3 yX3_rawOf wsX3_rawOf) := goodIn_app (goodIn_of _ (by decide +kernel)) ggX3_raw_X3_rawOf
set_option maxRecDepth 20000 in
theorem ggX3_raw_X3_told : GoodIn wsX3_raw wsX3_told := goodIn_r _ [59, 60, 61, 6, 62, 63, 64, 65] (by decide +kernel) (by decide +kernel)
set_option maxRecDepth 20000 in
theorem gX3_raw_X3_told : GoodIn wsX3_raw (va_wsS RX3 130 yX3_told wsX3_told) := goodIn_app (goodIn_of _ (by decide +kernel)) ggX3_raw_X3_told
theorem dX3_raw_0 : decode cX3_raw 0 = .ok (.iload_n 1, 1) := by decide +kernel
theorem dX3_raw_1 : decode cX3_raw 1 = .ok (.invokestatic 43, 3) := by decide +kernel
theorem dX3_raw_4 : decode cX3_raw 4 = .ok (.ifCond .eq 10, 3) := by decide +kernel
theorem dX3_raw_7 : decode cX3_raw 7 = .ok (.iload_n 2, 1) := by decide +kernel
theorem dX3_raw_8 : decode cX3_raw 8 = .ok (.invokestatic 122, 3) := by decide +kernel
theorem dX3_raw_11 : decode cX3_raw 11 = .ok (.ifCond .ne 7, 3) := by decide +kernel
theorem dX3_raw_14 : decode cX3_raw 14 = .ok (.ldc2_w 125, 3) := by decide +kernel
theorem dX3_raw_17 : decode cX3_raw 17 = .ok (.lreturn, 1) := by decide +kernel
theorem dX3_raw_18 : decode cX3_raw 18 = .ok (.iload_n 3, 1) := by decide +kernel
theorem dX3_raw_19 : decode cX3_raw 19 = .ok (.invokestatic 127, 3) := by decide +kernel
theorem dX3_raw_22 : decode cX3_raw 22 = .ok (.ifCond .eq 21, 3) := by decide +kernel
theorem dX3_raw_25 : decode cX3_raw 25 = .ok (.aload_n 0, 1) := by decide +kernel
theorem dX3_raw_26 : decode cX3_raw 26 = .ok (.iload_n 1, 1) := by decide +kernel
theorem dX3_raw_27 : decode cX3_raw 27 = .ok (.iload_n 2, 1) := by decide +kernel
theorem dX3_raw_28 : decode cX3_raw 28 = .ok (.iconst 0, 1) := by decide +kernel
theorem dX3_raw_29 : decode cX3_raw 29 = .ok (.iconst 0, 1) := by decide +kernel
theorem dX3_raw_30 : decode cX3_raw 30 = .ok (.invokevirtual 103, 3) := by decide +kernel
theorem dX3_raw_33 : decode cX3_raw 33 = .ok (.ldc2_w 111, 3) := by decide +kernel
theorem dX3_raw_36 : decode cX3_raw 36 = .ok (.iload_n 3, 1) := by decide +kernel
theorem dX3_raw_37 : decode cX3_raw 37 = .ok (.invokestatic 130, 3) := by decide +kernel
theorem dX3_raw_40 : decode cX3_raw 40 = .ok (.goto 6, 3) := by decide +kernel
theorem dX3_raw_43 : decode cX3_raw 43 = .ok (.ldc2_w 134, 3) := by decide +kernel
theorem dX3_raw_46 : decode cX3_raw 46 = .ok (.lreturn, 1) := by decide +kernel
set_option maxRecDepth 20000 in
theorem ggX3_cover_X3_isLayer : GoodIn wsX3_cover wsX3_isLayer := goodIn_r _ [7, 8, 9, 6, 10] (by decide +kernel) (by decide +kernel)
set_option maxRecDepth 20000 in
theorem gX3_cover_X3_isLayer : GoodIn wsX3_cover (va_wsS RX3 43 yX3_isLayer wsX3_isLayer) := goodIn_app (goodIn_of _ (by decide +kernel)) ggX3_cover_X3_isLayer
set_option maxRecDepth 20000 in
theorem ggX3_cover_X3_isDot : GoodIn wsX3_cover wsX3_isDot := goodIn_r _ [13, 8, 9, 6, 10] (by decide +kernel) (by decide +kernel)
set_option maxRecDepth 20000 in
theorem gX3_cover_X3_isDot : GoodIn wsX3_cover (va_wsS RX3 122 yX3_isDot wsX3_isDot) := goodIn_app (goodIn_of _ (by decide +kernel)) ggX3_cover_X3_isDot
set_option maxRecDepth 20000 in
theorem ggX3_cover_X3_isPart : GoodIn wsX3_cover wsX3_isPart := goodIn_r _ [16, 8, 9, 6, 10] (by decide +kernel) (by decide +kernel)
set_option maxRecDepth 20000 in
theorem gX3_cover_X3_isPart : GoodIn wsX3_cover (va_wsS RX3 127 yX3_isPart wsX3_isPart) := goodIn_app (goodIn_of _ (by decide +kernel)) ggX3_cover_X3_isPart
set_option maxRecDepth 20000 in
theorem ggX3_cover_X3_coverOf : GoodIn wsX3_cover wsX3_coverOf := goodIn_r _ [20, 21, 22, 23, 6, 24, 25, 2, 26, 27, 28, 29, 30, 31, 32, 33, 34, 35, 36, 37, 38, 39, 40, 41, 42, 43, 44, 45, 46, 47, 48, 49, 50, 51, 52, 53, 54, 55, 56, 57, 58, 59, 60, 61, 62, 63, 64, 65, 66, 67, 68, 75, 76, 77, 78, 79, 80, 81, 82, 83, 84, 85] (by decide +kernel) (by decide +kernel)
set_option maxRecDepth 20000 in
theorem gX3_cover_X3_coverOf : GoodIn wsX3_cover (wsV RX3 138 RX3 yX3_coverOf wsX3_coverOf) := goodIn_app (goodIn_of _ (by decide +kernel)) ggX3_cover_X3_coverOf
set_option maxRecDepth 20000 in
theorem ggX3_cover_X3_told : GoodIn wsX3_cover wsX3_told := goodIn_r _ [71, 66, 67, 6, 68, 72, 73, 74] (by decide +kernel) (by decide +kernel)
set_option maxRecDepth 20000 in
theorem gX3_cover_X3_told : GoodIn wsX3_cover (va_wsS RX3 130 yX3_told wsX3_told) := goodIn_app (goodIn_of _ (by decide +kernel)) ggX3_cover_X3_told
theorem dX3_cover_0 : decode cX3_cover 0 = .ok (.iload_n 1, 1) := by decide +kernel
theorem dX3_cover_1 : decode cX3_cover 1 = .ok (.invokestatic 43, 3) := by decide +kernel
theorem dX3_cover_4 : decode cX3_cover 4 = .ok (.ifCond .eq 10, 3) := by decide +kernel
theorem dX3_cover_7 : decode cX3_cover 7 = .ok (.iload_n 2, 1) := by decide +kernel
theorem dX3_cover_8 : decode cX3_cover 8 = .ok (.invokestatic 122, 3) := by decide +kernel
theorem dX3_cover_11 : decode cX3_cover 11 = .ok (.ifCond .ne 7, 3) := by decide +kernel
theorem dX3_cover_14 : decode cX3_cover 14 = .ok (.ldc2_w 136, 3) := by decide +kernel
theorem dX3_cover_17 : decode cX3_cover 17 = .ok (.lreturn, 1) := by decide +kernel
theorem dX3_cover_18 : decode cX3_cover 18 = .ok (.iload_n 3, 1) := by decide +kernel
theorem dX3_cover_19 : decode cX3_cover 19 = .ok (.invokestatic 127, 3) := by decide +kernel
theorem dX3_cover_22 : decode cX3_cover 22 = .ok (.ifCond .eq 19, 3) := by decide +kernel
theorem dX3_cover_25 : decode cX3_cover 25 = .ok (.aload_n 0, 1) := by decide +kernel
theorem dX3_cover_26 : decode cX3_cover 26 = .ok (.iload_n 1, 1) := by decide +kernel
theorem dX3_cover_27 : decode cX3_cover 27 = .ok (.iload_n 2, 1) := by decide +kernel
theorem dX3_cover_28 : decode cX3_cover 28 = .ok (.invokevirtual 138, 3) := by decide +kernel
theorem dX3_cover_31 : decode cX3_cover 31 = .ok (.ldc2_w 111, 3) := by decide +kernel
theorem dX3_cover_34 : decode cX3_cover 34 = .ok (.iload_n 3, 1) := by decide +kernel
theorem dX3_cover_35 : decode cX3_cover 35 = .ok (.invokestatic 130, 3) := by decide +kernel
theorem dX3_cover_38 : decode cX3_cover 38 = .ok (.goto 6, 3) := by decide +kernel
theorem dX3_cover_41 : decode cX3_cover 41 = .ok (.ldc2_w 142, 3) := by decide +kernel
theorem dX3_cover_44 : decode cX3_cover 44 = .ok (.lreturn, 1) := by decide +kernel
set_option maxRecDepth 20000 in
theorem ggX3_openOf_X3_coverOf : GoodIn wsX3_openOf wsX3_coverOf := goodIn_r _ [6, 7, 8, 9, 5, 10, 11, 1, 12, 13, 14, 15, 16, 17, 18, 19, 20, 21, 22, 23, 24, 25, 26, 27, 28, 29, 30, 31, 32, 33, 34, 35, 36, 37, 38, 39, 40, 41, 42, 43, 44, 45, 46, 47, 48, 49, 50, 51, 52, 53, 54, 55, 56, 57, 58, 59, 60, 61, 62, 63, 64, 65] (by decide +kernel) (by decide +kernel)
set_option maxRecDepth 20000 in
theorem gX3_openOf_X3_coverOf : GoodIn wsX3_openOf (wsV RX3 138 RX3 yX3_coverOf wsX3_coverOf) := goodIn_app (goodIn_of _ (by decide +kernel)) ggX3_openOf_X3_coverOf
theorem dX3_openOf_0 : decode cX3_openOf 0 = .ok (.lconst 1, 1) := by decide +kernel
theorem dX3_openOf_1 : decode cX3_openOf 1 = .ok (.lstore_n 2, 1) := by decide +kernel
theorem dX3_openOf_2 : decode cX3_openOf 2 = .ok (.iconst 0, 1) := by decide +kernel
theorem dX3_openOf_3 : decode cX3_openOf 3 = .ok (.istore 4, 2) := by decide +kernel
theorem dX3_openOf_5 : decode cX3_openOf 5 = .ok (.iload 4, 2) := by decide +kernel
theorem dX3_openOf_7 : decode cX3_openOf 7 = .ok (.iconst 3, 1) := by decide +kernel
theorem dX3_openOf_8 : decode cX3_openOf 8 = .ok (.if_icmp .ge 23, 3) := by decide +kernel
theorem dX3_openOf_11 : decode cX3_openOf 11 = .ok (.lload_n 2, 1) := by decide +kernel
theorem dX3_openOf_12 : decode cX3_openOf 12 = .ok (.ldc2_w 111, 3) := by decide +kernel
theorem dX3_openOf_15 : decode cX3_openOf 15 = .ok (.aload_n 0, 1) := by decide +kernel
theorem dX3_openOf_16 : decode cX3_openOf 16 = .ok (.iload 4, 2) := by decide +kernel
theorem dX3_openOf_18 : decode cX3_openOf 18 = .ok (.iload_n 1, 1) := by decide +kernel
theorem dX3_openOf_19 : decode cX3_openOf 19 = .ok (.invokevirtual 138, 3) := by decide +kernel
theorem dX3_openOf_22 : decode cX3_openOf 22 = .ok (.lsub, 1) := by decide +kernel
theorem dX3_openOf_23 : decode cX3_openOf 23 = .ok (.lmul, 1) := by decide +kernel
theorem dX3_openOf_24 : decode cX3_openOf 24 = .ok (.lstore_n 2, 1) := by decide +kernel
theorem dX3_openOf_25 : decode cX3_openOf 25 = .ok (.iinc 4 1, 3) := by decide +kernel
theorem dX3_openOf_28 : decode cX3_openOf 28 = .ok (.goto (-23), 3) := by decide +kernel
theorem dX3_openOf_31 : decode cX3_openOf 31 = .ok (.lload_n 2, 1) := by decide +kernel
theorem dX3_openOf_32 : decode cX3_openOf 32 = .ok (.lreturn, 1) := by decide +kernel
theorem dX3_whole_0 : decode cX3_whole 0 = .ok (.ldc2_w 144, 3) := by decide +kernel
theorem dX3_whole_3 : decode cX3_whole 3 = .ok (.lreturn, 1) := by decide +kernel
set_option maxRecDepth 20000 in
theorem ggX3_together_X3_isDot : GoodIn wsX3_together wsX3_isDot := goodIn_r _ [6, 7, 8, 5, 9] (by decide +kernel) (by decide +kernel)
set_option maxRecDepth 20000 in
theorem gX3_together_X3_isDot : GoodIn wsX3_together (va_wsS RX3 122 yX3_isDot wsX3_isDot) := goodIn_app (goodIn_of _ (by decide +kernel)) ggX3_together_X3_isDot
set_option maxRecDepth 20000 in
theorem ggX3_together_X3_isPart : GoodIn wsX3_together wsX3_isPart := goodIn_r _ [12, 7, 8, 5, 9] (by decide +kernel) (by decide +kernel)
set_option maxRecDepth 20000 in
theorem gX3_together_X3_isPart : GoodIn wsX3_together (va_wsS RX3 127 yX3_isPart wsX3_isPart) := goodIn_app (goodIn_of _ (by decide +kernel)) ggX3_together_X3_isPart
set_option maxRecDepth 20000 in
theorem ggX3_together_X3_whole : GoodIn wsX3_together wsX3_whole := goodIn_r _ [15, 16] (by decide +kernel) (by decide +kernel)
set_option maxRecDepth 20000 in
theorem gX3_together_X3_whole : GoodIn wsX3_together (va_wsS RX3 146 yX3_whole wsX3_whole) := goodIn_app (goodIn_of _ (by decide +kernel)) ggX3_together_X3_whole
set_option maxRecDepth 20000 in
theorem ggX3_together_X3_openOf : GoodIn wsX3_together wsX3_openOf := goodIn_r _ [20, 21, 22, 23, 24, 5, 25, 26, 27, 28, 29, 30, 31, 32, 33, 34, 35, 36, 37, 38, 39, 40, 41, 42, 43, 44, 45, 46, 47, 48, 49, 50, 51, 52, 53, 54, 55, 56, 57, 58, 59, 60, 61, 62, 63, 64, 65, 66, 67, 68, 69, 70, 71, 72, 73, 80, 81, 82, 83, 84, 85, 86, 87, 88, 89, 90] (by decide +kernel) (by decide +kernel)
set_option maxRecDepth 20000 in
theorem gX3_together_X3_openOf : GoodIn wsX3_together (wsV RX3 149 RX3 yX3_openOf wsX3_openOf) := goodIn_app (goodIn_of _ (by decide +kernel)) ggX3_together_X3_openOf
set_option maxRecDepth 20000 in
theorem ggX3_together_X3_told : GoodIn wsX3_together wsX3_told := goodIn_r _ [76, 71, 72, 5, 73, 77, 78, 79] (by decide +kernel) (by decide +kernel)
set_option maxRecDepth 20000 in
theorem gX3_together_X3_told : GoodIn wsX3_together (va_wsS RX3 130 yX3_told wsX3_told) := goodIn_app (goodIn_of _ (by decide +kernel)) ggX3_together_X3_told
theorem dX3_together_0 : decode cX3_together 0 = .ok (.iload_n 1, 1) := by decide +kernel
theorem dX3_together_1 : decode cX3_together 1 = .ok (.invokestatic 122, 3) := by decide +kernel
theorem dX3_together_4 : decode cX3_together 4 = .ok (.ifCond .ne 7, 3) := by decide +kernel
theorem dX3_together_7 : decode cX3_together 7 = .ok (.ldc2_w 136, 3) := by decide +kernel
theorem dX3_together_10 : decode cX3_together 10 = .ok (.lreturn, 1) := by decide +kernel
theorem dX3_together_11 : decode cX3_together 11 = .ok (.iload_n 2, 1) := by decide +kernel
theorem dX3_together_12 : decode cX3_together 12 = .ok (.invokestatic 127, 3) := by decide +kernel
theorem dX3_together_15 : decode cX3_together 15 = .ok (.ifCond .eq 22, 3) := by decide +kernel
theorem dX3_together_18 : decode cX3_together 18 = .ok (.invokestatic 146, 3) := by decide +kernel
theorem dX3_together_21 : decode cX3_together 21 = .ok (.aload_n 0, 1) := by decide +kernel
theorem dX3_together_22 : decode cX3_together 22 = .ok (.iload_n 1, 1) := by decide +kernel
theorem dX3_together_23 : decode cX3_together 23 = .ok (.invokevirtual 149, 3) := by decide +kernel
theorem dX3_together_26 : decode cX3_together 26 = .ok (.lsub, 1) := by decide +kernel
theorem dX3_together_27 : decode cX3_together 27 = .ok (.invokestatic 146, 3) := by decide +kernel
theorem dX3_together_30 : decode cX3_together 30 = .ok (.iload_n 2, 1) := by decide +kernel
theorem dX3_together_31 : decode cX3_together 31 = .ok (.invokestatic 130, 3) := by decide +kernel
theorem dX3_together_34 : decode cX3_together 34 = .ok (.goto 6, 3) := by decide +kernel
theorem dX3_together_37 : decode cX3_together 37 = .ok (.ldc2_w 142, 3) := by decide +kernel
theorem dX3_together_40 : decode cX3_together 40 = .ok (.lreturn, 1) := by decide +kernel
set_option maxRecDepth 20000 in
theorem ggX3_area_X3_isLayer : GoodIn wsX3_area wsX3_isLayer := goodIn_r _ [8, 9, 10, 7, 11] (by decide +kernel) (by decide +kernel)
set_option maxRecDepth 20000 in
theorem gX3_area_X3_isLayer : GoodIn wsX3_area (va_wsS RX3 43 yX3_isLayer wsX3_isLayer) := goodIn_app (goodIn_of _ (by decide +kernel)) ggX3_area_X3_isLayer
set_option maxRecDepth 20000 in
theorem ggX3_area_X3_isPart : GoodIn wsX3_area wsX3_isPart := goodIn_r _ [14, 9, 10, 7, 11] (by decide +kernel) (by decide +kernel)
set_option maxRecDepth 20000 in
theorem gX3_area_X3_isPart : GoodIn wsX3_area (va_wsS RX3 127 yX3_isPart wsX3_isPart) := goodIn_app (goodIn_of _ (by decide +kernel)) ggX3_area_X3_isPart
set_option maxRecDepth 20000 in
theorem ggX3_area_X3_rawOf : GoodIn wsX3_area wsX3_rawOf := goodIn_r _ [18, 19, 20, 21, 22, 23, 7, 24, 25, 26, 27, 28, 29, 30, 31, 32, 33, 34, 35, 36, 37, 38, 39, 40, 41, 42, 43, 44, 45, 46, 47, 48, 49, 50, 51, 52, 53, 54, 64, 65, 66, 67, 68, 69, 70, 71, 72, 73, 74] (by decide +kernel) (by decide +kernel)
set_option maxRecDepth 20000 in
theorem gX3_area_X3_rawOf : GoodIn wsX3_area (wsV RX3 103 RX3 yX3_rawOf wsX3_rawOf) := goodIn_app (goodIn_of _ (by decide +kernel)) ggX3_area_X3_rawOf
set_option maxRecDepth 20000 in
theorem ggX3_area_X3_told : GoodIn wsX3_area wsX3_told := goodIn_r _ [57, 58, 59, 7, 60, 61, 62, 63] (by decide +kernel) (by decide +kernel)
set_option maxRecDepth 20000 in
theorem gX3_area_X3_told : GoodIn wsX3_area (va_wsS RX3 130 yX3_told wsX3_told) := goodIn_app (goodIn_of _ (by decide +kernel)) ggX3_area_X3_told
theorem dX3_area_0 : decode cX3_area 0 = .ok (.iload_n 1, 1) := by decide +kernel
theorem dX3_area_1 : decode cX3_area 1 = .ok (.invokestatic 43, 3) := by decide +kernel
theorem dX3_area_4 : decode cX3_area 4 = .ok (.ifCond .ne 7, 3) := by decide +kernel
theorem dX3_area_7 : decode cX3_area 7 = .ok (.ldc2_w 125, 3) := by decide +kernel
theorem dX3_area_10 : decode cX3_area 10 = .ok (.lreturn, 1) := by decide +kernel
theorem dX3_area_11 : decode cX3_area 11 = .ok (.iload_n 2, 1) := by decide +kernel
theorem dX3_area_12 : decode cX3_area 12 = .ok (.invokestatic 127, 3) := by decide +kernel
theorem dX3_area_15 : decode cX3_area 15 = .ok (.ifCond .ne 7, 3) := by decide +kernel
theorem dX3_area_18 : decode cX3_area 18 = .ok (.ldc2_w 134, 3) := by decide +kernel
theorem dX3_area_21 : decode cX3_area 21 = .ok (.lreturn, 1) := by decide +kernel
theorem dX3_area_22 : decode cX3_area 22 = .ok (.lconst 0, 1) := by decide +kernel
theorem dX3_area_23 : decode cX3_area 23 = .ok (.lstore_n 3, 1) := by decide +kernel
theorem dX3_area_24 : decode cX3_area 24 = .ok (.iconst 0, 1) := by decide +kernel
theorem dX3_area_25 : decode cX3_area 25 = .ok (.istore 5, 2) := by decide +kernel
theorem dX3_area_27 : decode cX3_area 27 = .ok (.iload 5, 2) := by decide +kernel
theorem dX3_area_29 : decode cX3_area 29 = .ok (.bipush 16, 2) := by decide +kernel
theorem dX3_area_31 : decode cX3_area 31 = .ok (.if_icmp .ge 21, 3) := by decide +kernel
theorem dX3_area_34 : decode cX3_area 34 = .ok (.lload_n 3, 1) := by decide +kernel
theorem dX3_area_35 : decode cX3_area 35 = .ok (.aload_n 0, 1) := by decide +kernel
theorem dX3_area_36 : decode cX3_area 36 = .ok (.iload_n 1, 1) := by decide +kernel
theorem dX3_area_37 : decode cX3_area 37 = .ok (.iload 5, 2) := by decide +kernel
theorem dX3_area_39 : decode cX3_area 39 = .ok (.iconst 0, 1) := by decide +kernel
theorem dX3_area_40 : decode cX3_area 40 = .ok (.iconst 0, 1) := by decide +kernel
theorem dX3_area_41 : decode cX3_area 41 = .ok (.invokevirtual 103, 3) := by decide +kernel
theorem dX3_area_44 : decode cX3_area 44 = .ok (.ladd, 1) := by decide +kernel
theorem dX3_area_45 : decode cX3_area 45 = .ok (.lstore_n 3, 1) := by decide +kernel
theorem dX3_area_46 : decode cX3_area 46 = .ok (.iinc 5 1, 3) := by decide +kernel
theorem dX3_area_49 : decode cX3_area 49 = .ok (.goto (-22), 3) := by decide +kernel
theorem dX3_area_52 : decode cX3_area 52 = .ok (.ldc2_w 153, 3) := by decide +kernel
theorem dX3_area_55 : decode cX3_area 55 = .ok (.lload_n 3, 1) := by decide +kernel
theorem dX3_area_56 : decode cX3_area 56 = .ok (.lmul, 1) := by decide +kernel
theorem dX3_area_57 : decode cX3_area 57 = .ok (.ldc2_w 111, 3) := by decide +kernel
theorem dX3_area_60 : decode cX3_area 60 = .ok (.iload_n 2, 1) := by decide +kernel
theorem dX3_area_61 : decode cX3_area 61 = .ok (.invokestatic 130, 3) := by decide +kernel
theorem dX3_area_64 : decode cX3_area 64 = .ok (.lreturn, 1) := by decide +kernel
set_option maxRecDepth 20000 in
theorem ggX3_enough_X3_isLayer : GoodIn wsX3_enough wsX3_isLayer := goodIn_r _ [5, 6, 7, 4, 8] (by decide +kernel) (by decide +kernel)
set_option maxRecDepth 20000 in
theorem gX3_enough_X3_isLayer : GoodIn wsX3_enough (va_wsS RX3 43 yX3_isLayer wsX3_isLayer) := goodIn_app (goodIn_of _ (by decide +kernel)) ggX3_enough_X3_isLayer
set_option maxRecDepth 20000 in
theorem ggX3_enough_X3_in : GoodIn wsX3_enough wsX3_in := goodIn_r _ [8] (by decide +kernel) (by decide +kernel)
set_option maxRecDepth 20000 in
theorem gX3_enough_X3_in : GoodIn wsX3_enough (va_wsS RX3 39 yX3_in wsX3_in) := goodIn_app (goodIn_of _ (by decide +kernel)) ggX3_enough_X3_in
set_option maxRecDepth 20000 in
theorem ggX3_enough_X3_coverOf : GoodIn wsX3_enough wsX3_coverOf := goodIn_r _ [12, 13, 14, 15, 4, 16, 17, 1, 18, 19, 20, 21, 22, 23, 24, 25, 26, 27, 28, 29, 30, 31, 32, 33, 34, 35, 36, 37, 38, 39, 40, 41, 42, 43, 44, 45, 46, 47, 48, 49, 50, 51, 52, 53, 54, 55, 56, 57, 58, 59, 60, 61, 62, 63, 64, 65, 66, 67, 68, 69, 70, 71] (by decide +kernel) (by decide +kernel)
set_option maxRecDepth 20000 in
theorem gX3_enough_X3_coverOf : GoodIn wsX3_enough (wsV RX3 138 RX3 yX3_coverOf wsX3_coverOf) := goodIn_app (goodIn_of _ (by decide +kernel)) ggX3_enough_X3_coverOf
theorem dX3_enough_0 : decode cX3_enough 0 = .ok (.iload_n 1, 1) := by decide +kernel
theorem dX3_enough_1 : decode cX3_enough 1 = .ok (.invokestatic 43, 3) := by decide +kernel
theorem dX3_enough_4 : decode cX3_enough 4 = .ok (.ifCond .ne 5, 3) := by decide +kernel
theorem dX3_enough_7 : decode cX3_enough 7 = .ok (.iconst (-1), 1) := by decide +kernel
theorem dX3_enough_8 : decode cX3_enough 8 = .ok (.ireturn, 1) := by decide +kernel
theorem dX3_enough_9 : decode cX3_enough 9 = .ok (.iload_n 3, 1) := by decide +kernel
theorem dX3_enough_10 : decode cX3_enough 10 = .ok (.iconst 1, 1) := by decide +kernel
theorem dX3_enough_11 : decode cX3_enough 11 = .ok (.bipush 99, 2) := by decide +kernel
theorem dX3_enough_13 : decode cX3_enough 13 = .ok (.invokestatic 39, 3) := by decide +kernel
theorem dX3_enough_16 : decode cX3_enough 16 = .ok (.ifCond .eq 12, 3) := by decide +kernel
theorem dX3_enough_19 : decode cX3_enough 19 = .ok (.iload_n 2, 1) := by decide +kernel
theorem dX3_enough_20 : decode cX3_enough 20 = .ok (.iconst 0, 1) := by decide +kernel
theorem dX3_enough_21 : decode cX3_enough 21 = .ok (.iload_n 3, 1) := by decide +kernel
theorem dX3_enough_22 : decode cX3_enough 22 = .ok (.invokestatic 39, 3) := by decide +kernel
theorem dX3_enough_25 : decode cX3_enough 25 = .ok (.ifCond .ne 6, 3) := by decide +kernel
theorem dX3_enough_28 : decode cX3_enough 28 = .ok (.bipush (-2), 2) := by decide +kernel
theorem dX3_enough_30 : decode cX3_enough 30 = .ok (.ireturn, 1) := by decide +kernel
theorem dX3_enough_31 : decode cX3_enough 31 = .ok (.iconst 0, 1) := by decide +kernel
theorem dX3_enough_32 : decode cX3_enough 32 = .ok (.istore 4, 2) := by decide +kernel
theorem dX3_enough_34 : decode cX3_enough 34 = .ok (.iconst 0, 1) := by decide +kernel
theorem dX3_enough_35 : decode cX3_enough 35 = .ok (.istore 5, 2) := by decide +kernel
theorem dX3_enough_37 : decode cX3_enough 37 = .ok (.iload 5, 2) := by decide +kernel
theorem dX3_enough_39 : decode cX3_enough 39 = .ok (.bipush 16, 2) := by decide +kernel
theorem dX3_enough_41 : decode cX3_enough 41 = .ok (.if_icmp .ge 42, 3) := by decide +kernel
theorem dX3_enough_44 : decode cX3_enough 44 = .ok (.iload 4, 2) := by decide +kernel
theorem dX3_enough_46 : decode cX3_enough 46 = .ok (.aload_n 0, 1) := by decide +kernel
theorem dX3_enough_47 : decode cX3_enough 47 = .ok (.iload_n 1, 1) := by decide +kernel
theorem dX3_enough_48 : decode cX3_enough 48 = .ok (.iload 5, 2) := by decide +kernel
theorem dX3_enough_50 : decode cX3_enough 50 = .ok (.invokevirtual 138, 3) := by decide +kernel
theorem dX3_enough_53 : decode cX3_enough 53 = .ok (.iload_n 3, 1) := by decide +kernel
theorem dX3_enough_54 : decode cX3_enough 54 = .ok (.i2l, 1) := by decide +kernel
theorem dX3_enough_55 : decode cX3_enough 55 = .ok (.lmul, 1) := by decide +kernel
theorem dX3_enough_56 : decode cX3_enough 56 = .ok (.iload_n 2, 1) := by decide +kernel
theorem dX3_enough_57 : decode cX3_enough 57 = .ok (.i2l, 1) := by decide +kernel
theorem dX3_enough_58 : decode cX3_enough 58 = .ok (.ldc2_w 111, 3) := by decide +kernel
theorem dX3_enough_61 : decode cX3_enough 61 = .ok (.lmul, 1) := by decide +kernel
theorem dX3_enough_62 : decode cX3_enough 62 = .ok (.lcmp, 1) := by decide +kernel
theorem dX3_enough_63 : decode cX3_enough 63 = .ok (.ifCond .lt 10, 3) := by decide +kernel
theorem dX3_enough_66 : decode cX3_enough 66 = .ok (.iconst 1, 1) := by decide +kernel
theorem dX3_enough_67 : decode cX3_enough 67 = .ok (.iload 5, 2) := by decide +kernel
theorem dX3_enough_69 : decode cX3_enough 69 = .ok (.ishl, 1) := by decide +kernel
theorem dX3_enough_70 : decode cX3_enough 70 = .ok (.goto 4, 3) := by decide +kernel
theorem dX3_enough_73 : decode cX3_enough 73 = .ok (.iconst 0, 1) := by decide +kernel
theorem dX3_enough_74 : decode cX3_enough 74 = .ok (.ior, 1) := by decide +kernel
theorem dX3_enough_75 : decode cX3_enough 75 = .ok (.istore 4, 2) := by decide +kernel
theorem dX3_enough_77 : decode cX3_enough 77 = .ok (.iinc 5 1, 3) := by decide +kernel
theorem dX3_enough_80 : decode cX3_enough 80 = .ok (.goto (-43), 3) := by decide +kernel
theorem dX3_enough_83 : decode cX3_enough 83 = .ok (.iload 4, 2) := by decide +kernel
theorem dX3_enough_85 : decode cX3_enough 85 = .ok (.ireturn, 1) := by decide +kernel
set_option maxRecDepth 20000 in
theorem ggX3_field_X3_in : GoodIn wsX3_field wsX3_in := goodIn_r _ [4] (by decide +kernel) (by decide +kernel)
set_option maxRecDepth 20000 in
theorem gX3_field_X3_in : GoodIn wsX3_field (va_wsS RX3 39 yX3_in wsX3_in) := goodIn_app (goodIn_of _ (by decide +kernel)) ggX3_field_X3_in
set_option maxRecDepth 20000 in
theorem ggX3_field_X3_openOf : GoodIn wsX3_field wsX3_openOf := goodIn_r _ [8, 9, 10, 11, 12, 3, 13, 14, 15, 16, 17, 18, 19, 20, 21, 22, 23, 24, 25, 26, 27, 28, 29, 30, 31, 32, 33, 34, 35, 36, 37, 38, 39, 40, 41, 42, 43, 44, 45, 46, 47, 48, 49, 50, 51, 52, 53, 54, 55, 56, 57, 58, 59, 60, 61, 66, 67, 68, 69, 70, 71, 72, 73, 74, 75, 76] (by decide +kernel) (by decide +kernel)
set_option maxRecDepth 20000 in
theorem gX3_field_X3_openOf : GoodIn wsX3_field (wsV RX3 149 RX3 yX3_openOf wsX3_openOf) := goodIn_app (goodIn_of _ (by decide +kernel)) ggX3_field_X3_openOf
set_option maxRecDepth 20000 in
theorem ggX3_field_X3_whole : GoodIn wsX3_field wsX3_whole := goodIn_r _ [64, 65] (by decide +kernel) (by decide +kernel)
set_option maxRecDepth 20000 in
theorem gX3_field_X3_whole : GoodIn wsX3_field (va_wsS RX3 146 yX3_whole wsX3_whole) := goodIn_app (goodIn_of _ (by decide +kernel)) ggX3_field_X3_whole
theorem dX3_field_0 : decode cX3_field 0 = .ok (.iload_n 1, 1) := by decide +kernel
theorem dX3_field_1 : decode cX3_field 1 = .ok (.iconst 0, 1) := by decide +kernel
theorem dX3_field_2 : decode cX3_field 2 = .ok (.iconst 3, 1) := by decide +kernel
theorem dX3_field_3 : decode cX3_field 3 = .ok (.invokestatic 39, 3) := by decide +kernel
theorem dX3_field_6 : decode cX3_field 6 = .ok (.ifCond .ne 6, 3) := by decide +kernel
theorem dX3_field_9 : decode cX3_field 9 = .ok (.bipush (-2), 2) := by decide +kernel
theorem dX3_field_11 : decode cX3_field 11 = .ok (.ireturn, 1) := by decide +kernel
theorem dX3_field_12 : decode cX3_field 12 = .ok (.iconst 0, 1) := by decide +kernel
theorem dX3_field_13 : decode cX3_field 13 = .ok (.istore_n 2, 1) := by decide +kernel
theorem dX3_field_14 : decode cX3_field 14 = .ok (.iconst 0, 1) := by decide +kernel
theorem dX3_field_15 : decode cX3_field 15 = .ok (.istore_n 3, 1) := by decide +kernel
theorem dX3_field_16 : decode cX3_field 16 = .ok (.iconst 0, 1) := by decide +kernel
theorem dX3_field_17 : decode cX3_field 17 = .ok (.istore 4, 2) := by decide +kernel
theorem dX3_field_19 : decode cX3_field 19 = .ok (.iconst 0, 1) := by decide +kernel
theorem dX3_field_20 : decode cX3_field 20 = .ok (.istore 5, 2) := by decide +kernel
theorem dX3_field_22 : decode cX3_field 22 = .ok (.iconst 0, 1) := by decide +kernel
theorem dX3_field_23 : decode cX3_field 23 = .ok (.istore 6, 2) := by decide +kernel
theorem dX3_field_25 : decode cX3_field 25 = .ok (.iload 6, 2) := by decide +kernel
theorem dX3_field_27 : decode cX3_field 27 = .ok (.bipush 16, 2) := by decide +kernel
theorem dX3_field_29 : decode cX3_field 29 = .ok (.if_icmp .ge 89, 3) := by decide +kernel
theorem dX3_field_32 : decode cX3_field 32 = .ok (.aload_n 0, 1) := by decide +kernel
theorem dX3_field_33 : decode cX3_field 33 = .ok (.iload 6, 2) := by decide +kernel
theorem dX3_field_35 : decode cX3_field 35 = .ok (.invokevirtual 149, 3) := by decide +kernel
theorem dX3_field_38 : decode cX3_field 38 = .ok (.lstore 7, 2) := by decide +kernel
theorem dX3_field_40 : decode cX3_field 40 = .ok (.lload 7, 2) := by decide +kernel
theorem dX3_field_42 : decode cX3_field 42 = .ok (.aload_n 0, 1) := by decide +kernel
theorem dX3_field_43 : decode cX3_field 43 = .ok (.iload_n 2, 1) := by decide +kernel
theorem dX3_field_44 : decode cX3_field 44 = .ok (.invokevirtual 149, 3) := by decide +kernel
theorem dX3_field_47 : decode cX3_field 47 = .ok (.lcmp, 1) := by decide +kernel
theorem dX3_field_48 : decode cX3_field 48 = .ok (.ifCond .ge 8, 3) := by decide +kernel
theorem dX3_field_51 : decode cX3_field 51 = .ok (.iload 6, 2) := by decide +kernel
theorem dX3_field_53 : decode cX3_field 53 = .ok (.goto 4, 3) := by decide +kernel
theorem dX3_field_56 : decode cX3_field 56 = .ok (.iload_n 2, 1) := by decide +kernel
theorem dX3_field_57 : decode cX3_field 57 = .ok (.istore_n 2, 1) := by decide +kernel
theorem dX3_field_58 : decode cX3_field 58 = .ok (.lload 7, 2) := by decide +kernel
theorem dX3_field_60 : decode cX3_field 60 = .ok (.aload_n 0, 1) := by decide +kernel
theorem dX3_field_61 : decode cX3_field 61 = .ok (.iload_n 3, 1) := by decide +kernel
theorem dX3_field_62 : decode cX3_field 62 = .ok (.invokevirtual 149, 3) := by decide +kernel
theorem dX3_field_65 : decode cX3_field 65 = .ok (.lcmp, 1) := by decide +kernel
theorem dX3_field_66 : decode cX3_field 66 = .ok (.ifCond .le 8, 3) := by decide +kernel
theorem dX3_field_69 : decode cX3_field 69 = .ok (.iload 6, 2) := by decide +kernel
theorem dX3_field_71 : decode cX3_field 71 = .ok (.goto 4, 3) := by decide +kernel
theorem dX3_field_74 : decode cX3_field 74 = .ok (.iload_n 3, 1) := by decide +kernel
theorem dX3_field_75 : decode cX3_field 75 = .ok (.istore_n 3, 1) := by decide +kernel
theorem dX3_field_76 : decode cX3_field 76 = .ok (.iload 4, 2) := by decide +kernel
theorem dX3_field_78 : decode cX3_field 78 = .ok (.lload 7, 2) := by decide +kernel
theorem dX3_field_80 : decode cX3_field 80 = .ok (.lconst 0, 1) := by decide +kernel
theorem dX3_field_81 : decode cX3_field 81 = .ok (.lcmp, 1) := by decide +kernel
theorem dX3_field_82 : decode cX3_field 82 = .ok (.ifCond .ne 7, 3) := by decide +kernel
theorem dX3_field_85 : decode cX3_field 85 = .ok (.iconst 1, 1) := by decide +kernel
theorem dX3_field_86 : decode cX3_field 86 = .ok (.goto 4, 3) := by decide +kernel
theorem dX3_field_89 : decode cX3_field 89 = .ok (.iconst 0, 1) := by decide +kernel
theorem dX3_field_90 : decode cX3_field 90 = .ok (.iadd, 1) := by decide +kernel
theorem dX3_field_91 : decode cX3_field 91 = .ok (.istore 4, 2) := by decide +kernel
theorem dX3_field_93 : decode cX3_field 93 = .ok (.iload 5, 2) := by decide +kernel
theorem dX3_field_95 : decode cX3_field 95 = .ok (.lload 7, 2) := by decide +kernel
theorem dX3_field_97 : decode cX3_field 97 = .ok (.invokestatic 146, 3) := by decide +kernel
theorem dX3_field_100 : decode cX3_field 100 = .ok (.lcmp, 1) := by decide +kernel
theorem dX3_field_101 : decode cX3_field 101 = .ok (.ifCond .ne 7, 3) := by decide +kernel
theorem dX3_field_104 : decode cX3_field 104 = .ok (.iconst 1, 1) := by decide +kernel
theorem dX3_field_105 : decode cX3_field 105 = .ok (.goto 4, 3) := by decide +kernel
theorem dX3_field_108 : decode cX3_field 108 = .ok (.iconst 0, 1) := by decide +kernel
theorem dX3_field_109 : decode cX3_field 109 = .ok (.iadd, 1) := by decide +kernel
theorem dX3_field_110 : decode cX3_field 110 = .ok (.istore 5, 2) := by decide +kernel
theorem dX3_field_112 : decode cX3_field 112 = .ok (.iinc 6 1, 3) := by decide +kernel
theorem dX3_field_115 : decode cX3_field 115 = .ok (.goto (-90), 3) := by decide +kernel
theorem dX3_field_118 : decode cX3_field 118 = .ok (.iload_n 1, 1) := by decide +kernel
theorem dX3_field_119 : decode cX3_field 119 = .ok (.ifCond .ne 7, 3) := by decide +kernel
theorem dX3_field_122 : decode cX3_field 122 = .ok (.iload_n 2, 1) := by decide +kernel
theorem dX3_field_123 : decode cX3_field 123 = .ok (.goto 24, 3) := by decide +kernel
theorem dX3_field_126 : decode cX3_field 126 = .ok (.iload_n 1, 1) := by decide +kernel
theorem dX3_field_127 : decode cX3_field 127 = .ok (.iconst 1, 1) := by decide +kernel
theorem dX3_field_128 : decode cX3_field 128 = .ok (.if_icmp .ne 7, 3) := by decide +kernel
theorem dX3_field_131 : decode cX3_field 131 = .ok (.iload_n 3, 1) := by decide +kernel
theorem dX3_field_132 : decode cX3_field 132 = .ok (.goto 15, 3) := by decide +kernel
theorem dX3_field_135 : decode cX3_field 135 = .ok (.iload_n 1, 1) := by decide +kernel
theorem dX3_field_136 : decode cX3_field 136 = .ok (.iconst 2, 1) := by decide +kernel
theorem dX3_field_137 : decode cX3_field 137 = .ok (.if_icmp .ne 8, 3) := by decide +kernel
theorem dX3_field_140 : decode cX3_field 140 = .ok (.iload 4, 2) := by decide +kernel
theorem dX3_field_142 : decode cX3_field 142 = .ok (.goto 5, 3) := by decide +kernel
theorem dX3_field_145 : decode cX3_field 145 = .ok (.iload 5, 2) := by decide +kernel
theorem dX3_field_147 : decode cX3_field 147 = .ok (.ireturn, 1) := by decide +kernel
set_option maxRecDepth 20000 in
theorem ggX3_fullMoved_X3_coverMoved : GoodIn wsX3_fullMoved wsX3_coverMoved := goodIn_r _ [6, 7, 1, 8, 9, 10, 11, 5, 12, 13, 14, 15, 16, 17, 18, 19, 20, 21, 22, 23, 24, 25, 26, 27, 28, 29, 30, 31, 32, 33, 34, 35, 36, 37, 38, 39, 40, 41, 42, 43, 44, 45, 46, 47, 48, 49, 50, 51, 52, 53, 54, 55, 56, 57, 58, 59, 60, 61] (by decide +kernel) (by decide +kernel)
set_option maxRecDepth 20000 in
theorem gX3_fullMoved_X3_coverMoved : GoodIn wsX3_fullMoved (wsV RX3 115 RX3 yX3_coverMoved wsX3_coverMoved) := goodIn_app (goodIn_of _ (by decide +kernel)) ggX3_fullMoved_X3_coverMoved
theorem dX3_fullMoved_0 : decode cX3_fullMoved 0 = .ok (.iconst 0, 1) := by decide +kernel
theorem dX3_fullMoved_1 : decode cX3_fullMoved 1 = .ok (.istore 4, 2) := by decide +kernel
theorem dX3_fullMoved_3 : decode cX3_fullMoved 3 = .ok (.iconst 0, 1) := by decide +kernel
theorem dX3_fullMoved_4 : decode cX3_fullMoved 4 = .ok (.istore 5, 2) := by decide +kernel
theorem dX3_fullMoved_6 : decode cX3_fullMoved 6 = .ok (.iload 5, 2) := by decide +kernel
theorem dX3_fullMoved_8 : decode cX3_fullMoved 8 = .ok (.bipush 16, 2) := by decide +kernel
theorem dX3_fullMoved_10 : decode cX3_fullMoved 10 = .ok (.if_icmp .ge 35, 3) := by decide +kernel
theorem dX3_fullMoved_13 : decode cX3_fullMoved 13 = .ok (.iload 4, 2) := by decide +kernel
theorem dX3_fullMoved_15 : decode cX3_fullMoved 15 = .ok (.aload_n 0, 1) := by decide +kernel
theorem dX3_fullMoved_16 : decode cX3_fullMoved 16 = .ok (.iload_n 1, 1) := by decide +kernel
theorem dX3_fullMoved_17 : decode cX3_fullMoved 17 = .ok (.iload 5, 2) := by decide +kernel
theorem dX3_fullMoved_19 : decode cX3_fullMoved 19 = .ok (.iload_n 2, 1) := by decide +kernel
theorem dX3_fullMoved_20 : decode cX3_fullMoved 20 = .ok (.iload_n 3, 1) := by decide +kernel
theorem dX3_fullMoved_21 : decode cX3_fullMoved 21 = .ok (.invokevirtual 115, 3) := by decide +kernel
theorem dX3_fullMoved_24 : decode cX3_fullMoved 24 = .ok (.ldc2_w 111, 3) := by decide +kernel
theorem dX3_fullMoved_27 : decode cX3_fullMoved 27 = .ok (.lcmp, 1) := by decide +kernel
theorem dX3_fullMoved_28 : decode cX3_fullMoved 28 = .ok (.ifCond .ne 7, 3) := by decide +kernel
theorem dX3_fullMoved_31 : decode cX3_fullMoved 31 = .ok (.iconst 1, 1) := by decide +kernel
theorem dX3_fullMoved_32 : decode cX3_fullMoved 32 = .ok (.goto 4, 3) := by decide +kernel
theorem dX3_fullMoved_35 : decode cX3_fullMoved 35 = .ok (.iconst 0, 1) := by decide +kernel
theorem dX3_fullMoved_36 : decode cX3_fullMoved 36 = .ok (.iadd, 1) := by decide +kernel
theorem dX3_fullMoved_37 : decode cX3_fullMoved 37 = .ok (.istore 4, 2) := by decide +kernel
theorem dX3_fullMoved_39 : decode cX3_fullMoved 39 = .ok (.iinc 5 1, 3) := by decide +kernel
theorem dX3_fullMoved_42 : decode cX3_fullMoved 42 = .ok (.goto (-36), 3) := by decide +kernel
theorem dX3_fullMoved_45 : decode cX3_fullMoved 45 = .ok (.iload 4, 2) := by decide +kernel
theorem dX3_fullMoved_47 : decode cX3_fullMoved 47 = .ok (.ireturn, 1) := by decide +kernel
set_option maxRecDepth 20000 in
theorem ggX3_best_X3_isLayer : GoodIn wsX3_best wsX3_isLayer := goodIn_r _ [5, 6, 7, 4, 8] (by decide +kernel) (by decide +kernel)
set_option maxRecDepth 20000 in
theorem gX3_best_X3_isLayer : GoodIn wsX3_best (va_wsS RX3 43 yX3_isLayer wsX3_isLayer) := goodIn_app (goodIn_of _ (by decide +kernel)) ggX3_best_X3_isLayer
set_option maxRecDepth 20000 in
theorem ggX3_best_X3_in : GoodIn wsX3_best wsX3_in := goodIn_r _ [8] (by decide +kernel) (by decide +kernel)
set_option maxRecDepth 20000 in
theorem gX3_best_X3_in : GoodIn wsX3_best (va_wsS RX3 39 yX3_in wsX3_in) := goodIn_app (goodIn_of _ (by decide +kernel)) ggX3_best_X3_in
set_option maxRecDepth 20000 in
theorem ggX3_best_X3_canMove : GoodIn wsX3_best wsX3_canMove := goodIn_r _ [12, 1, 13, 14, 4, 15, 16, 17, 18, 6, 7, 8, 68, 69, 70, 71, 72, 73, 74, 75, 76, 77, 78] (by decide +kernel) (by decide +kernel)
set_option maxRecDepth 20000 in
theorem gX3_best_X3_canMove : GoodIn wsX3_best (wsV RX3 58 RX3 yX3_canMove wsX3_canMove) := goodIn_app (goodIn_of _ (by decide +kernel)) ggX3_best_X3_canMove
set_option maxRecDepth 20000 in
theorem ggX3_best_X3_fullMoved : GoodIn wsX3_best wsX3_fullMoved := goodIn_r _ [22, 23, 24, 25, 26, 4, 27, 1, 28, 29, 30, 31, 32, 33, 34, 35, 36, 37, 38, 39, 40, 41, 13, 14, 15, 42, 43, 44, 45, 46, 47, 48, 49, 50, 51, 52, 53, 54, 55, 56, 57, 58, 59, 60, 61, 62, 63, 64, 65, 66, 67, 68, 69, 70, 71, 72, 73, 74, 75, 76, 77, 78] (by decide +kernel) (by decide +kernel)
set_option maxRecDepth 20000 in
theorem gX3_best_X3_fullMoved : GoodIn wsX3_best (wsV RX3 155 RX3 yX3_fullMoved wsX3_fullMoved) := goodIn_app (goodIn_of _ (by decide +kernel)) ggX3_best_X3_fullMoved
theorem dX3_best_0 : decode cX3_best 0 = .ok (.iload_n 1, 1) := by decide +kernel
theorem dX3_best_1 : decode cX3_best 1 = .ok (.invokestatic 43, 3) := by decide +kernel
theorem dX3_best_4 : decode cX3_best 4 = .ok (.ifCond .ne 5, 3) := by decide +kernel
theorem dX3_best_7 : decode cX3_best 7 = .ok (.iconst (-1), 1) := by decide +kernel
theorem dX3_best_8 : decode cX3_best 8 = .ok (.ireturn, 1) := by decide +kernel
theorem dX3_best_9 : decode cX3_best 9 = .ok (.iload_n 2, 1) := by decide +kernel
theorem dX3_best_10 : decode cX3_best 10 = .ok (.iconst 0, 1) := by decide +kernel
theorem dX3_best_11 : decode cX3_best 11 = .ok (.iconst 2, 1) := by decide +kernel
theorem dX3_best_12 : decode cX3_best 12 = .ok (.invokestatic 39, 3) := by decide +kernel
theorem dX3_best_15 : decode cX3_best 15 = .ok (.ifCond .ne 6, 3) := by decide +kernel
theorem dX3_best_18 : decode cX3_best 18 = .ok (.bipush (-2), 2) := by decide +kernel
theorem dX3_best_20 : decode cX3_best 20 = .ok (.ireturn, 1) := by decide +kernel
theorem dX3_best_21 : decode cX3_best 21 = .ok (.aload_n 0, 1) := by decide +kernel
theorem dX3_best_22 : decode cX3_best 22 = .ok (.getfield 7, 3) := by decide +kernel
theorem dX3_best_25 : decode cX3_best 25 = .ok (.iconst 0, 1) := by decide +kernel
theorem dX3_best_26 : decode cX3_best 26 = .ok (.iload_n 1, 1) := by decide +kernel
theorem dX3_best_27 : decode cX3_best 27 = .ok (.iadd, 1) := by decide +kernel
theorem dX3_best_28 : decode cX3_best 28 = .ok (.iaload, 1) := by decide +kernel
theorem dX3_best_29 : decode cX3_best 29 = .ok (.ifCond .ne 6, 3) := by decide +kernel
theorem dX3_best_32 : decode cX3_best 32 = .ok (.bipush (-6), 2) := by decide +kernel
theorem dX3_best_34 : decode cX3_best 34 = .ok (.ireturn, 1) := by decide +kernel
theorem dX3_best_35 : decode cX3_best 35 = .ok (.bipush (-6), 2) := by decide +kernel
theorem dX3_best_37 : decode cX3_best 37 = .ok (.istore_n 3, 1) := by decide +kernel
theorem dX3_best_38 : decode cX3_best 38 = .ok (.iconst 0, 1) := by decide +kernel
theorem dX3_best_39 : decode cX3_best 39 = .ok (.istore 4, 2) := by decide +kernel
theorem dX3_best_41 : decode cX3_best 41 = .ok (.iconst 0, 1) := by decide +kernel
theorem dX3_best_42 : decode cX3_best 42 = .ok (.istore 5, 2) := by decide +kernel
theorem dX3_best_44 : decode cX3_best 44 = .ok (.bipush (-12), 2) := by decide +kernel
theorem dX3_best_46 : decode cX3_best 46 = .ok (.istore 6, 2) := by decide +kernel
theorem dX3_best_48 : decode cX3_best 48 = .ok (.iload 6, 2) := by decide +kernel
theorem dX3_best_50 : decode cX3_best 50 = .ok (.bipush 12, 2) := by decide +kernel
theorem dX3_best_52 : decode cX3_best 52 = .ok (.if_icmp .gt 71, 3) := by decide +kernel
theorem dX3_best_55 : decode cX3_best 55 = .ok (.bipush (-12), 2) := by decide +kernel
theorem dX3_best_57 : decode cX3_best 57 = .ok (.istore 7, 2) := by decide +kernel
theorem dX3_best_59 : decode cX3_best 59 = .ok (.iload 7, 2) := by decide +kernel
theorem dX3_best_61 : decode cX3_best 61 = .ok (.bipush 12, 2) := by decide +kernel
theorem dX3_best_63 : decode cX3_best 63 = .ok (.if_icmp .gt 54, 3) := by decide +kernel
theorem dX3_best_66 : decode cX3_best 66 = .ok (.aload_n 0, 1) := by decide +kernel
theorem dX3_best_67 : decode cX3_best 67 = .ok (.iload_n 1, 1) := by decide +kernel
theorem dX3_best_68 : decode cX3_best 68 = .ok (.iload 6, 2) := by decide +kernel
theorem dX3_best_70 : decode cX3_best 70 = .ok (.iload 7, 2) := by decide +kernel
theorem dX3_best_72 : decode cX3_best 72 = .ok (.invokevirtual 58, 3) := by decide +kernel
theorem dX3_best_75 : decode cX3_best 75 = .ok (.ifCond .eq 15, 3) := by decide +kernel
theorem dX3_best_78 : decode cX3_best 78 = .ok (.aload_n 0, 1) := by decide +kernel
theorem dX3_best_79 : decode cX3_best 79 = .ok (.iload_n 1, 1) := by decide +kernel
theorem dX3_best_80 : decode cX3_best 80 = .ok (.iload 6, 2) := by decide +kernel
theorem dX3_best_82 : decode cX3_best 82 = .ok (.iload 7, 2) := by decide +kernel
theorem dX3_best_84 : decode cX3_best 84 = .ok (.invokevirtual 155, 3) := by decide +kernel
theorem dX3_best_87 : decode cX3_best 87 = .ok (.goto 5, 3) := by decide +kernel
theorem dX3_best_90 : decode cX3_best 90 = .ok (.bipush (-6), 2) := by decide +kernel
theorem dX3_best_92 : decode cX3_best 92 = .ok (.istore 8, 2) := by decide +kernel
theorem dX3_best_94 : decode cX3_best 94 = .ok (.iload 8, 2) := by decide +kernel
theorem dX3_best_96 : decode cX3_best 96 = .ok (.iload_n 3, 1) := by decide +kernel
theorem dX3_best_97 : decode cX3_best 97 = .ok (.if_icmp .le 14, 3) := by decide +kernel
theorem dX3_best_100 : decode cX3_best 100 = .ok (.iload 8, 2) := by decide +kernel
theorem dX3_best_102 : decode cX3_best 102 = .ok (.istore_n 3, 1) := by decide +kernel
theorem dX3_best_103 : decode cX3_best 103 = .ok (.iload 6, 2) := by decide +kernel
theorem dX3_best_105 : decode cX3_best 105 = .ok (.istore 4, 2) := by decide +kernel
theorem dX3_best_107 : decode cX3_best 107 = .ok (.iload 7, 2) := by decide +kernel
theorem dX3_best_109 : decode cX3_best 109 = .ok (.istore 5, 2) := by decide +kernel
