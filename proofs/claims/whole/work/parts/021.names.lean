theorem dX0_rawParts_86 : decode cX0_rawParts 86 = .ok (.iaload, 1) := by decide +kernel
theorem dX0_rawParts_87 : decode cX0_rawParts 87 = .ok (.aload_n 0, 1) := by decide +kernel
theorem dX0_rawParts_88 : decode cX0_rawParts 88 = .ok (.getfield 9, 3) := by decide +kernel
theorem dX0_rawParts_91 : decode cX0_rawParts 91 = .ok (.iload 9, 2) := by decide +kernel
theorem dX0_rawParts_93 : decode cX0_rawParts 93 = .ok (.iaload, 1) := by decide +kernel
theorem dX0_rawParts_94 : decode cX0_rawParts 94 = .ok (.aload_n 0, 1) := by decide +kernel
theorem dX0_rawParts_95 : decode cX0_rawParts 95 = .ok (.getfield 15, 3) := by decide +kernel
theorem dX0_rawParts_98 : decode cX0_rawParts 98 = .ok (.iload 9, 2) := by decide +kernel
theorem dX0_rawParts_100 : decode cX0_rawParts 100 = .ok (.iaload, 1) := by decide +kernel
theorem dX0_rawParts_101 : decode cX0_rawParts 101 = .ok (.iload 4, 2) := by decide +kernel
theorem dX0_rawParts_103 : decode cX0_rawParts 103 = .ok (.iload 5, 2) := by decide +kernel
theorem dX0_rawParts_105 : decode cX0_rawParts 105 = .ok (.invokestatic 74, 3) := by decide +kernel
theorem dX0_rawParts_108 : decode cX0_rawParts 108 = .ok (.ladd, 1) := by decide +kernel
theorem dX0_rawParts_109 : decode cX0_rawParts 109 = .ok (.lstore 6, 2) := by decide +kernel
theorem dX0_rawParts_111 : decode cX0_rawParts 111 = .ok (.goto 60, 3) := by decide +kernel
theorem dX0_rawParts_114 : decode cX0_rawParts 114 = .ok (.aload_n 0, 1) := by decide +kernel
theorem dX0_rawParts_115 : decode cX0_rawParts 115 = .ok (.getfield 15, 3) := by decide +kernel
theorem dX0_rawParts_118 : decode cX0_rawParts 118 = .ok (.iload 8, 2) := by decide +kernel
theorem dX0_rawParts_120 : decode cX0_rawParts 120 = .ok (.iaload, 1) := by decide +kernel
theorem dX0_rawParts_121 : decode cX0_rawParts 121 = .ok (.aload_n 0, 1) := by decide +kernel
theorem dX0_rawParts_122 : decode cX0_rawParts 122 = .ok (.getfield 15, 3) := by decide +kernel
theorem dX0_rawParts_125 : decode cX0_rawParts 125 = .ok (.iload 9, 2) := by decide +kernel
theorem dX0_rawParts_127 : decode cX0_rawParts 127 = .ok (.iaload, 1) := by decide +kernel
theorem dX0_rawParts_128 : decode cX0_rawParts 128 = .ok (.if_icmp .le 43, 3) := by decide +kernel
theorem dX0_rawParts_131 : decode cX0_rawParts 131 = .ok (.lload 6, 2) := by decide +kernel
theorem dX0_rawParts_133 : decode cX0_rawParts 133 = .ok (.aload_n 0, 1) := by decide +kernel
theorem dX0_rawParts_134 : decode cX0_rawParts 134 = .ok (.getfield 9, 3) := by decide +kernel
theorem dX0_rawParts_137 : decode cX0_rawParts 137 = .ok (.iload 9, 2) := by decide +kernel
theorem dX0_rawParts_139 : decode cX0_rawParts 139 = .ok (.iaload, 1) := by decide +kernel
theorem dX0_rawParts_140 : decode cX0_rawParts 140 = .ok (.aload_n 0, 1) := by decide +kernel
theorem dX0_rawParts_141 : decode cX0_rawParts 141 = .ok (.getfield 15, 3) := by decide +kernel
theorem dX0_rawParts_144 : decode cX0_rawParts 144 = .ok (.iload 9, 2) := by decide +kernel
theorem dX0_rawParts_146 : decode cX0_rawParts 146 = .ok (.iaload, 1) := by decide +kernel
theorem dX0_rawParts_147 : decode cX0_rawParts 147 = .ok (.aload_n 0, 1) := by decide +kernel
theorem dX0_rawParts_148 : decode cX0_rawParts 148 = .ok (.getfield 9, 3) := by decide +kernel
theorem dX0_rawParts_151 : decode cX0_rawParts 151 = .ok (.iload 8, 2) := by decide +kernel
theorem dX0_rawParts_153 : decode cX0_rawParts 153 = .ok (.iaload, 1) := by decide +kernel
theorem dX0_rawParts_154 : decode cX0_rawParts 154 = .ok (.aload_n 0, 1) := by decide +kernel
theorem dX0_rawParts_155 : decode cX0_rawParts 155 = .ok (.getfield 15, 3) := by decide +kernel
theorem dX0_rawParts_158 : decode cX0_rawParts 158 = .ok (.iload 8, 2) := by decide +kernel
theorem dX0_rawParts_160 : decode cX0_rawParts 160 = .ok (.iaload, 1) := by decide +kernel
theorem dX0_rawParts_161 : decode cX0_rawParts 161 = .ok (.iload 4, 2) := by decide +kernel
theorem dX0_rawParts_163 : decode cX0_rawParts 163 = .ok (.iload 5, 2) := by decide +kernel
theorem dX0_rawParts_165 : decode cX0_rawParts 165 = .ok (.invokestatic 74, 3) := by decide +kernel
theorem dX0_rawParts_168 : decode cX0_rawParts 168 = .ok (.lsub, 1) := by decide +kernel
theorem dX0_rawParts_169 : decode cX0_rawParts 169 = .ok (.lstore 6, 2) := by decide +kernel
theorem dX0_rawParts_171 : decode cX0_rawParts 171 = .ok (.iinc 8 1, 3) := by decide +kernel
theorem dX0_rawParts_174 : decode cX0_rawParts 174 = .ok (.goto (-150), 3) := by decide +kernel
theorem dX0_rawParts_177 : decode cX0_rawParts 177 = .ok (.lload 6, 2) := by decide +kernel
theorem dX0_rawParts_179 : decode cX0_rawParts 179 = .ok (.lreturn, 1) := by decide +kernel
set_option maxRecDepth 20000 in
theorem ggX0_leftOfEdge_X0_beforeEdge : GoodIn wsX0_leftOfEdge wsX0_beforeEdge := goodIn_r _ [14, 15] (by decide +kernel) (by decide +kernel)
set_option maxRecDepth 20000 in
theorem gX0_leftOfEdge_X0_beforeEdge : GoodIn wsX0_leftOfEdge (va_wsS RX0 81 yX0_beforeEdge wsX0_beforeEdge) := goodIn_app (goodIn_of _ (by decide +kernel)) ggX0_leftOfEdge_X0_beforeEdge
theorem dX0_leftOfEdge_0 : decode cX0_leftOfEdge 0 = .ok (.iload_n 1, 1) := by decide +kernel
theorem dX0_leftOfEdge_1 : decode cX0_leftOfEdge 1 = .ok (.iload 5, 2) := by decide +kernel
theorem dX0_leftOfEdge_3 : decode cX0_leftOfEdge 3 = .ok (.invokestatic 53, 3) := by decide +kernel
theorem dX0_leftOfEdge_6 : decode cX0_leftOfEdge 6 = .ok (.istore 6, 2) := by decide +kernel
theorem dX0_leftOfEdge_8 : decode cX0_leftOfEdge 8 = .ok (.iload_n 3, 1) := by decide +kernel
theorem dX0_leftOfEdge_9 : decode cX0_leftOfEdge 9 = .ok (.iload 5, 2) := by decide +kernel
theorem dX0_leftOfEdge_11 : decode cX0_leftOfEdge 11 = .ok (.iconst 3, 1) := by decide +kernel
theorem dX0_leftOfEdge_12 : decode cX0_leftOfEdge 12 = .ok (.iadd, 1) := by decide +kernel
theorem dX0_leftOfEdge_13 : decode cX0_leftOfEdge 13 = .ok (.invokestatic 47, 3) := by decide +kernel
theorem dX0_leftOfEdge_16 : decode cX0_leftOfEdge 16 = .ok (.istore 7, 2) := by decide +kernel
theorem dX0_leftOfEdge_18 : decode cX0_leftOfEdge 18 = .ok (.iload 6, 2) := by decide +kernel
theorem dX0_leftOfEdge_20 : decode cX0_leftOfEdge 20 = .ok (.iload 7, 2) := by decide +kernel
theorem dX0_leftOfEdge_22 : decode cX0_leftOfEdge 22 = .ok (.if_icmp .lt 5, 3) := by decide +kernel
theorem dX0_leftOfEdge_25 : decode cX0_leftOfEdge 25 = .ok (.lconst 0, 1) := by decide +kernel
theorem dX0_leftOfEdge_26 : decode cX0_leftOfEdge 26 = .ok (.lreturn, 1) := by decide +kernel
theorem dX0_leftOfEdge_27 : decode cX0_leftOfEdge 27 = .ok (.iload_n 2, 1) := by decide +kernel
theorem dX0_leftOfEdge_28 : decode cX0_leftOfEdge 28 = .ok (.iload_n 0, 1) := by decide +kernel
theorem dX0_leftOfEdge_29 : decode cX0_leftOfEdge 29 = .ok (.isub, 1) := by decide +kernel
theorem dX0_leftOfEdge_30 : decode cX0_leftOfEdge 30 = .ok (.istore 8, 2) := by decide +kernel
theorem dX0_leftOfEdge_32 : decode cX0_leftOfEdge 32 = .ok (.iload_n 3, 1) := by decide +kernel
theorem dX0_leftOfEdge_33 : decode cX0_leftOfEdge 33 = .ok (.iload_n 1, 1) := by decide +kernel
theorem dX0_leftOfEdge_34 : decode cX0_leftOfEdge 34 = .ok (.isub, 1) := by decide +kernel
theorem dX0_leftOfEdge_35 : decode cX0_leftOfEdge 35 = .ok (.istore 9, 2) := by decide +kernel
theorem dX0_leftOfEdge_37 : decode cX0_leftOfEdge 37 = .ok (.iload_n 0, 1) := by decide +kernel
theorem dX0_leftOfEdge_38 : decode cX0_leftOfEdge 38 = .ok (.iload 4, 2) := by decide +kernel
theorem dX0_leftOfEdge_40 : decode cX0_leftOfEdge 40 = .ok (.isub, 1) := by decide +kernel
theorem dX0_leftOfEdge_41 : decode cX0_leftOfEdge 41 = .ok (.iload 9, 2) := by decide +kernel
theorem dX0_leftOfEdge_43 : decode cX0_leftOfEdge 43 = .ok (.imul, 1) := by decide +kernel
theorem dX0_leftOfEdge_44 : decode cX0_leftOfEdge 44 = .ok (.iload 8, 2) := by decide +kernel
theorem dX0_leftOfEdge_46 : decode cX0_leftOfEdge 46 = .ok (.iload 6, 2) := by decide +kernel
theorem dX0_leftOfEdge_48 : decode cX0_leftOfEdge 48 = .ok (.iload_n 1, 1) := by decide +kernel
theorem dX0_leftOfEdge_49 : decode cX0_leftOfEdge 49 = .ok (.isub, 1) := by decide +kernel
theorem dX0_leftOfEdge_50 : decode cX0_leftOfEdge 50 = .ok (.imul, 1) := by decide +kernel
theorem dX0_leftOfEdge_51 : decode cX0_leftOfEdge 51 = .ok (.iadd, 1) := by decide +kernel
theorem dX0_leftOfEdge_52 : decode cX0_leftOfEdge 52 = .ok (.istore 10, 2) := by decide +kernel
theorem dX0_leftOfEdge_54 : decode cX0_leftOfEdge 54 = .ok (.iload_n 0, 1) := by decide +kernel
theorem dX0_leftOfEdge_55 : decode cX0_leftOfEdge 55 = .ok (.iload 4, 2) := by decide +kernel
theorem dX0_leftOfEdge_57 : decode cX0_leftOfEdge 57 = .ok (.isub, 1) := by decide +kernel
theorem dX0_leftOfEdge_58 : decode cX0_leftOfEdge 58 = .ok (.iload 9, 2) := by decide +kernel
theorem dX0_leftOfEdge_60 : decode cX0_leftOfEdge 60 = .ok (.imul, 1) := by decide +kernel
theorem dX0_leftOfEdge_61 : decode cX0_leftOfEdge 61 = .ok (.iload 8, 2) := by decide +kernel
theorem dX0_leftOfEdge_63 : decode cX0_leftOfEdge 63 = .ok (.iload 7, 2) := by decide +kernel
theorem dX0_leftOfEdge_65 : decode cX0_leftOfEdge 65 = .ok (.iload_n 1, 1) := by decide +kernel
theorem dX0_leftOfEdge_66 : decode cX0_leftOfEdge 66 = .ok (.isub, 1) := by decide +kernel
theorem dX0_leftOfEdge_67 : decode cX0_leftOfEdge 67 = .ok (.imul, 1) := by decide +kernel
theorem dX0_leftOfEdge_68 : decode cX0_leftOfEdge 68 = .ok (.iadd, 1) := by decide +kernel
theorem dX0_leftOfEdge_69 : decode cX0_leftOfEdge 69 = .ok (.istore 11, 2) := by decide +kernel
theorem dX0_leftOfEdge_71 : decode cX0_leftOfEdge 71 = .ok (.iconst 3, 1) := by decide +kernel
theorem dX0_leftOfEdge_72 : decode cX0_leftOfEdge 72 = .ok (.iload 9, 2) := by decide +kernel
theorem dX0_leftOfEdge_74 : decode cX0_leftOfEdge 74 = .ok (.imul, 1) := by decide +kernel
theorem dX0_leftOfEdge_75 : decode cX0_leftOfEdge 75 = .ok (.istore 12, 2) := by decide +kernel
theorem dX0_leftOfEdge_77 : decode cX0_leftOfEdge 77 = .ok (.iload 8, 2) := by decide +kernel
theorem dX0_leftOfEdge_79 : decode cX0_leftOfEdge 79 = .ok (.invokestatic 78, 3) := by decide +kernel
theorem dX0_leftOfEdge_82 : decode cX0_leftOfEdge 82 = .ok (.istore 13, 2) := by decide +kernel
theorem dX0_leftOfEdge_84 : decode cX0_leftOfEdge 84 = .ok (.iload 10, 2) := by decide +kernel
theorem dX0_leftOfEdge_86 : decode cX0_leftOfEdge 86 = .ok (.iload 11, 2) := by decide +kernel
theorem dX0_leftOfEdge_88 : decode cX0_leftOfEdge 88 = .ok (.iload 13, 2) := by decide +kernel
theorem dX0_leftOfEdge_90 : decode cX0_leftOfEdge 90 = .ok (.iload 9, 2) := by decide +kernel
theorem dX0_leftOfEdge_92 : decode cX0_leftOfEdge 92 = .ok (.iload 7, 2) := by decide +kernel
theorem dX0_leftOfEdge_94 : decode cX0_leftOfEdge 94 = .ok (.iload 6, 2) := by decide +kernel
theorem dX0_leftOfEdge_96 : decode cX0_leftOfEdge 96 = .ok (.isub, 1) := by decide +kernel
theorem dX0_leftOfEdge_97 : decode cX0_leftOfEdge 97 = .ok (.invokestatic 81, 3) := by decide +kernel
theorem dX0_leftOfEdge_100 : decode cX0_leftOfEdge 100 = .ok (.iload 10, 2) := by decide +kernel
theorem dX0_leftOfEdge_102 : decode cX0_leftOfEdge 102 = .ok (.iload 12, 2) := by decide +kernel
theorem dX0_leftOfEdge_104 : decode cX0_leftOfEdge 104 = .ok (.isub, 1) := by decide +kernel
theorem dX0_leftOfEdge_105 : decode cX0_leftOfEdge 105 = .ok (.iload 11, 2) := by decide +kernel
theorem dX0_leftOfEdge_107 : decode cX0_leftOfEdge 107 = .ok (.iload 12, 2) := by decide +kernel
theorem dX0_leftOfEdge_109 : decode cX0_leftOfEdge 109 = .ok (.isub, 1) := by decide +kernel
theorem dX0_leftOfEdge_110 : decode cX0_leftOfEdge 110 = .ok (.iload 13, 2) := by decide +kernel
theorem dX0_leftOfEdge_112 : decode cX0_leftOfEdge 112 = .ok (.iload 9, 2) := by decide +kernel
theorem dX0_leftOfEdge_114 : decode cX0_leftOfEdge 114 = .ok (.iload 7, 2) := by decide +kernel
theorem dX0_leftOfEdge_116 : decode cX0_leftOfEdge 116 = .ok (.iload 6, 2) := by decide +kernel
theorem dX0_leftOfEdge_118 : decode cX0_leftOfEdge 118 = .ok (.isub, 1) := by decide +kernel
theorem dX0_leftOfEdge_119 : decode cX0_leftOfEdge 119 = .ok (.invokestatic 81, 3) := by decide +kernel
theorem dX0_leftOfEdge_122 : decode cX0_leftOfEdge 122 = .ok (.lsub, 1) := by decide +kernel
theorem dX0_leftOfEdge_123 : decode cX0_leftOfEdge 123 = .ok (.lreturn, 1) := by decide +kernel
theorem dX0_beforeEdge_0 : decode cX0_beforeEdge 0 = .ok (.iload_n 3, 1) := by decide +kernel
theorem dX0_beforeEdge_1 : decode cX0_beforeEdge 1 = .ok (.ifCond .eq 11, 3) := by decide +kernel
theorem dX0_beforeEdge_4 : decode cX0_beforeEdge 4 = .ok (.iload_n 0, 1) := by decide +kernel
theorem dX0_beforeEdge_5 : decode cX0_beforeEdge 5 = .ok (.ifCond .gt 9, 3) := by decide +kernel
theorem dX0_beforeEdge_8 : decode cX0_beforeEdge 8 = .ok (.iload_n 1, 1) := by decide +kernel
theorem dX0_beforeEdge_9 : decode cX0_beforeEdge 9 = .ok (.ifCond .gt 5, 3) := by decide +kernel
theorem dX0_beforeEdge_12 : decode cX0_beforeEdge 12 = .ok (.lconst 0, 1) := by decide +kernel
theorem dX0_beforeEdge_13 : decode cX0_beforeEdge 13 = .ok (.lreturn, 1) := by decide +kernel
theorem dX0_beforeEdge_14 : decode cX0_beforeEdge 14 = .ok (.iload_n 0, 1) := by decide +kernel
theorem dX0_beforeEdge_15 : decode cX0_beforeEdge 15 = .ok (.ifCond .lt 23, 3) := by decide +kernel
theorem dX0_beforeEdge_18 : decode cX0_beforeEdge 18 = .ok (.iload_n 1, 1) := by decide +kernel
theorem dX0_beforeEdge_19 : decode cX0_beforeEdge 19 = .ok (.ifCond .lt 19, 3) := by decide +kernel
theorem dX0_beforeEdge_22 : decode cX0_beforeEdge 22 = .ok (.ldc2_w 85, 3) := by decide +kernel
theorem dX0_beforeEdge_25 : decode cX0_beforeEdge 25 = .ok (.iload_n 0, 1) := by decide +kernel
theorem dX0_beforeEdge_26 : decode cX0_beforeEdge 26 = .ok (.iload_n 1, 1) := by decide +kernel
theorem dX0_beforeEdge_27 : decode cX0_beforeEdge 27 = .ok (.iadd, 1) := by decide +kernel
theorem dX0_beforeEdge_28 : decode cX0_beforeEdge 28 = .ok (.i2l, 1) := by decide +kernel
theorem dX0_beforeEdge_29 : decode cX0_beforeEdge 29 = .ok (.lmul, 1) := by decide +kernel
theorem dX0_beforeEdge_30 : decode cX0_beforeEdge 30 = .ok (.iload 4, 2) := by decide +kernel
theorem dX0_beforeEdge_32 : decode cX0_beforeEdge 32 = .ok (.i2l, 1) := by decide +kernel
theorem dX0_beforeEdge_33 : decode cX0_beforeEdge 33 = .ok (.lmul, 1) := by decide +kernel
theorem dX0_beforeEdge_34 : decode cX0_beforeEdge 34 = .ok (.iload_n 3, 1) := by decide +kernel
theorem dX0_beforeEdge_35 : decode cX0_beforeEdge 35 = .ok (.i2l, 1) := by decide +kernel
theorem dX0_beforeEdge_36 : decode cX0_beforeEdge 36 = .ok (.ldiv, 1) := by decide +kernel
theorem dX0_beforeEdge_37 : decode cX0_beforeEdge 37 = .ok (.lreturn, 1) := by decide +kernel
theorem dX0_beforeEdge_38 : decode cX0_beforeEdge 38 = .ok (.iload_n 2, 1) := by decide +kernel
theorem dX0_beforeEdge_39 : decode cX0_beforeEdge 39 = .ok (.ifCond .ne 5, 3) := by decide +kernel
theorem dX0_beforeEdge_42 : decode cX0_beforeEdge 42 = .ok (.lconst 0, 1) := by decide +kernel
theorem dX0_beforeEdge_43 : decode cX0_beforeEdge 43 = .ok (.lreturn, 1) := by decide +kernel
theorem dX0_beforeEdge_44 : decode cX0_beforeEdge 44 = .ok (.iload_n 0, 1) := by decide +kernel
theorem dX0_beforeEdge_45 : decode cX0_beforeEdge 45 = .ok (.iload_n 1, 1) := by decide +kernel
theorem dX0_beforeEdge_46 : decode cX0_beforeEdge 46 = .ok (.if_icmp .le 7, 3) := by decide +kernel
theorem dX0_beforeEdge_49 : decode cX0_beforeEdge 49 = .ok (.iload_n 0, 1) := by decide +kernel
theorem dX0_beforeEdge_50 : decode cX0_beforeEdge 50 = .ok (.goto 4, 3) := by decide +kernel
theorem dX0_beforeEdge_53 : decode cX0_beforeEdge 53 = .ok (.iload_n 1, 1) := by decide +kernel
theorem dX0_beforeEdge_54 : decode cX0_beforeEdge 54 = .ok (.istore 5, 2) := by decide +kernel
theorem dX0_beforeEdge_56 : decode cX0_beforeEdge 56 = .ok (.ldc2_w 85, 3) := by decide +kernel
theorem dX0_beforeEdge_59 : decode cX0_beforeEdge 59 = .ok (.iload 5, 2) := by decide +kernel
theorem dX0_beforeEdge_61 : decode cX0_beforeEdge 61 = .ok (.i2l, 1) := by decide +kernel
theorem dX0_beforeEdge_62 : decode cX0_beforeEdge 62 = .ok (.lmul, 1) := by decide +kernel
theorem dX0_beforeEdge_63 : decode cX0_beforeEdge 63 = .ok (.iload 5, 2) := by decide +kernel
theorem dX0_beforeEdge_65 : decode cX0_beforeEdge 65 = .ok (.i2l, 1) := by decide +kernel
theorem dX0_beforeEdge_66 : decode cX0_beforeEdge 66 = .ok (.lmul, 1) := by decide +kernel
theorem dX0_beforeEdge_67 : decode cX0_beforeEdge 67 = .ok (.iload_n 2, 1) := by decide +kernel
theorem dX0_beforeEdge_68 : decode cX0_beforeEdge 68 = .ok (.iload_n 3, 1) := by decide +kernel
theorem dX0_beforeEdge_69 : decode cX0_beforeEdge 69 = .ok (.imul, 1) := by decide +kernel
theorem dX0_beforeEdge_70 : decode cX0_beforeEdge 70 = .ok (.i2l, 1) := by decide +kernel
theorem dX0_beforeEdge_71 : decode cX0_beforeEdge 71 = .ok (.ldiv, 1) := by decide +kernel
theorem dX0_beforeEdge_72 : decode cX0_beforeEdge 72 = .ok (.lreturn, 1) := by decide +kernel
set_option maxRecDepth 20000 in
theorem ggX1_init_X0_init : GoodIn wsX1_init wsX0_init := goodIn_r _ [10, 11, 2, 3, 12, 13, 14, 15, 16, 18, 19, 20, 21] (by decide +kernel) (by decide +kernel)
set_option maxRecDepth 20000 in
theorem gX1_init_X0_init : GoodIn wsX1_init (wsX0_init) := ggX1_init_X0_init
theorem dX1_init_0 : decode cX1_init 0 = .ok (.aload_n 0, 1) := by decide +kernel
theorem dX1_init_1 : decode cX1_init 1 = .ok (.invokespecial 3, 3) := by decide +kernel
theorem dX1_init_4 : decode cX1_init 4 = .ok (.aload_n 0, 1) := by decide +kernel
theorem dX1_init_5 : decode cX1_init 5 = .ok (.iconst 3, 1) := by decide +kernel
theorem dX1_init_6 : decode cX1_init 6 = .ok (.anewarray 9, 3) := by decide +kernel
theorem dX1_init_9 : decode cX1_init 9 = .ok (.putfield 11, 3) := by decide +kernel
theorem dX1_init_12 : decode cX1_init 12 = .ok (.iconst 0, 1) := by decide +kernel
theorem dX1_init_13 : decode cX1_init 13 = .ok (.istore_n 1, 1) := by decide +kernel
theorem dX1_init_14 : decode cX1_init 14 = .ok (.iload_n 1, 1) := by decide +kernel
theorem dX1_init_15 : decode cX1_init 15 = .ok (.iconst 3, 1) := by decide +kernel
theorem dX1_init_16 : decode cX1_init 16 = .ok (.if_icmp .ge 22, 3) := by decide +kernel
theorem dX1_init_19 : decode cX1_init 19 = .ok (.aload_n 0, 1) := by decide +kernel
theorem dX1_init_20 : decode cX1_init 20 = .ok (.getfield 11, 3) := by decide +kernel
theorem dX1_init_23 : decode cX1_init 23 = .ok (.iload_n 1, 1) := by decide +kernel
theorem dX1_init_24 : decode cX1_init 24 = .ok (.new 9, 3) := by decide +kernel
theorem dX1_init_27 : decode cX1_init 27 = .ok (.dup, 1) := by decide +kernel
theorem dX1_init_28 : decode cX1_init 28 = .ok (.invokespecial 17, 3) := by decide +kernel
theorem dX1_init_31 : decode cX1_init 31 = .ok (.aastore, 1) := by decide +kernel
theorem dX1_init_32 : decode cX1_init 32 = .ok (.iinc 1 1, 3) := by decide +kernel
theorem dX1_init_35 : decode cX1_init 35 = .ok (.goto (-21), 3) := by decide +kernel
theorem dX1_init_38 : decode cX1_init 38 = .ok (.return_, 1) := by decide +kernel
set_option maxRecDepth 20000 in
theorem ggX1_layerOf_X2_within : GoodIn wsX1_layerOf wsX2_within := goodIn_r _ [4] (by decide +kernel) (by decide +kernel)
set_option maxRecDepth 20000 in
theorem gX1_layerOf_X2_within_n18 : GoodIn wsX1_layerOf (wsX2_within) := ggX1_layerOf_X2_within
theorem dX1_layerOf_0 : decode cX1_layerOf 0 = .ok (.iload_n 1, 1) := by decide +kernel
theorem dX1_layerOf_1 : decode cX1_layerOf 1 = .ok (.iconst 0, 1) := by decide +kernel
theorem dX1_layerOf_2 : decode cX1_layerOf 2 = .ok (.iconst 2, 1) := by decide +kernel
theorem dX1_layerOf_3 : decode cX1_layerOf 3 = .ok (.invokestatic 18, 3) := by decide +kernel
theorem dX1_layerOf_6 : decode cX1_layerOf 6 = .ok (.ifCond .eq 12, 3) := by decide +kernel
theorem dX1_layerOf_9 : decode cX1_layerOf 9 = .ok (.aload_n 0, 1) := by decide +kernel
theorem dX1_layerOf_10 : decode cX1_layerOf 10 = .ok (.getfield 11, 3) := by decide +kernel
theorem dX1_layerOf_13 : decode cX1_layerOf 13 = .ok (.iload_n 1, 1) := by decide +kernel
theorem dX1_layerOf_14 : decode cX1_layerOf 14 = .ok (.aaload, 1) := by decide +kernel
theorem dX1_layerOf_15 : decode cX1_layerOf 15 = .ok (.goto 4, 3) := by decide +kernel
theorem dX1_layerOf_18 : decode cX1_layerOf 18 = .ok (.aconst_null, 1) := by decide +kernel
theorem dX1_layerOf_19 : decode cX1_layerOf 19 = .ok (.areturn, 1) := by decide +kernel
set_option maxRecDepth 20000 in
theorem ggX1_copyFrom_X0_copyFrom : GoodIn wsX1_copyFrom wsX0_copyFrom := goodIn_r _ [6, 7, 8, 9, 10, 12, 13, 14, 15] (by decide +kernel) (by decide +kernel)
set_option maxRecDepth 20000 in
theorem gX1_copyFrom_X0_copyFrom : GoodIn wsX1_copyFrom (wsV RX1 22 RX0 yX0_copyFrom wsX0_copyFrom) := goodIn_app (goodIn_of _ (by decide +kernel)) ggX1_copyFrom_X0_copyFrom
theorem dX1_copyFrom_0 : decode cX1_copyFrom 0 = .ok (.iconst 0, 1) := by decide +kernel
theorem dX1_copyFrom_1 : decode cX1_copyFrom 1 = .ok (.istore_n 2, 1) := by decide +kernel
theorem dX1_copyFrom_2 : decode cX1_copyFrom 2 = .ok (.iload_n 2, 1) := by decide +kernel
theorem dX1_copyFrom_3 : decode cX1_copyFrom 3 = .ok (.iconst 3, 1) := by decide +kernel
theorem dX1_copyFrom_4 : decode cX1_copyFrom 4 = .ok (.if_icmp .ge 24, 3) := by decide +kernel
theorem dX1_copyFrom_7 : decode cX1_copyFrom 7 = .ok (.aload_n 0, 1) := by decide +kernel
theorem dX1_copyFrom_8 : decode cX1_copyFrom 8 = .ok (.getfield 11, 3) := by decide +kernel
theorem dX1_copyFrom_11 : decode cX1_copyFrom 11 = .ok (.iload_n 2, 1) := by decide +kernel
theorem dX1_copyFrom_12 : decode cX1_copyFrom 12 = .ok (.aaload, 1) := by decide +kernel
theorem dX1_copyFrom_13 : decode cX1_copyFrom 13 = .ok (.aload_n 1, 1) := by decide +kernel
theorem dX1_copyFrom_14 : decode cX1_copyFrom 14 = .ok (.getfield 11, 3) := by decide +kernel
theorem dX1_copyFrom_17 : decode cX1_copyFrom 17 = .ok (.iload_n 2, 1) := by decide +kernel
theorem dX1_copyFrom_18 : decode cX1_copyFrom 18 = .ok (.aaload, 1) := by decide +kernel
theorem dX1_copyFrom_19 : decode cX1_copyFrom 19 = .ok (.invokevirtual 22, 3) := by decide +kernel
theorem dX1_copyFrom_22 : decode cX1_copyFrom 22 = .ok (.iinc 2 1, 3) := by decide +kernel
theorem dX1_copyFrom_25 : decode cX1_copyFrom 25 = .ok (.goto (-23), 3) := by decide +kernel
theorem dX1_copyFrom_28 : decode cX1_copyFrom 28 = .ok (.return_, 1) := by decide +kernel
theorem dX1_pointsOfAll_0 : decode cX1_pointsOfAll 0 = .ok (.iconst 0, 1) := by decide +kernel
theorem dX1_pointsOfAll_1 : decode cX1_pointsOfAll 1 = .ok (.istore_n 1, 1) := by decide +kernel
theorem dX1_pointsOfAll_2 : decode cX1_pointsOfAll 2 = .ok (.iconst 0, 1) := by decide +kernel
theorem dX1_pointsOfAll_3 : decode cX1_pointsOfAll 3 = .ok (.istore_n 2, 1) := by decide +kernel
theorem dX1_pointsOfAll_4 : decode cX1_pointsOfAll 4 = .ok (.iload_n 2, 1) := by decide +kernel
theorem dX1_pointsOfAll_5 : decode cX1_pointsOfAll 5 = .ok (.iconst 3, 1) := by decide +kernel
theorem dX1_pointsOfAll_6 : decode cX1_pointsOfAll 6 = .ok (.if_icmp .ge 21, 3) := by decide +kernel
theorem dX1_pointsOfAll_9 : decode cX1_pointsOfAll 9 = .ok (.iload_n 1, 1) := by decide +kernel
theorem dX1_pointsOfAll_10 : decode cX1_pointsOfAll 10 = .ok (.aload_n 0, 1) := by decide +kernel
theorem dX1_pointsOfAll_11 : decode cX1_pointsOfAll 11 = .ok (.getfield 11, 3) := by decide +kernel
theorem dX1_pointsOfAll_14 : decode cX1_pointsOfAll 14 = .ok (.iload_n 2, 1) := by decide +kernel
theorem dX1_pointsOfAll_15 : decode cX1_pointsOfAll 15 = .ok (.aaload, 1) := by decide +kernel
theorem dX1_pointsOfAll_16 : decode cX1_pointsOfAll 16 = .ok (.getfield 26, 3) := by decide +kernel
theorem dX1_pointsOfAll_19 : decode cX1_pointsOfAll 19 = .ok (.iadd, 1) := by decide +kernel
theorem dX1_pointsOfAll_20 : decode cX1_pointsOfAll 20 = .ok (.istore_n 1, 1) := by decide +kernel
theorem dX1_pointsOfAll_21 : decode cX1_pointsOfAll 21 = .ok (.iinc 2 1, 3) := by decide +kernel
theorem dX1_pointsOfAll_24 : decode cX1_pointsOfAll 24 = .ok (.goto (-20), 3) := by decide +kernel
theorem dX1_pointsOfAll_27 : decode cX1_pointsOfAll 27 = .ok (.iload_n 1, 1) := by decide +kernel
theorem dX1_pointsOfAll_28 : decode cX1_pointsOfAll 28 = .ok (.ireturn, 1) := by decide +kernel
set_option maxRecDepth 20000 in
theorem ggX1_togetherParts_X0_coverParts : GoodIn wsX1_togetherParts wsX0_coverParts := goodIn_r _ [8, 9, 10, 11, 12, 13, 14, 15, 16, 17, 18, 19, 20, 21, 7, 22, 23, 24, 25, 26, 27, 28, 29, 30, 31, 32, 33, 34, 35, 36, 37, 38, 39, 40, 41, 43, 44, 45, 46] (by decide +kernel) (by decide +kernel)
set_option maxRecDepth 20000 in
theorem gX1_togetherParts_X0_coverParts : GoodIn wsX1_togetherParts (wsV RX1 32 RX0 yX0_coverParts wsX0_coverParts) := goodIn_app (goodIn_of _ (by decide +kernel)) ggX1_togetherParts_X0_coverParts
theorem dX1_togetherParts_0 : decode cX1_togetherParts 0 = .ok (.lconst 1, 1) := by decide +kernel
theorem dX1_togetherParts_1 : decode cX1_togetherParts 1 = .ok (.lstore_n 2, 1) := by decide +kernel
theorem dX1_togetherParts_2 : decode cX1_togetherParts 2 = .ok (.iconst 0, 1) := by decide +kernel
theorem dX1_togetherParts_3 : decode cX1_togetherParts 3 = .ok (.istore 4, 2) := by decide +kernel
theorem dX1_togetherParts_5 : decode cX1_togetherParts 5 = .ok (.iload 4, 2) := by decide +kernel
theorem dX1_togetherParts_7 : decode cX1_togetherParts 7 = .ok (.iconst 3, 1) := by decide +kernel
theorem dX1_togetherParts_8 : decode cX1_togetherParts 8 = .ok (.if_icmp .ge 29, 3) := by decide +kernel
theorem dX1_togetherParts_11 : decode cX1_togetherParts 11 = .ok (.lload_n 2, 1) := by decide +kernel
theorem dX1_togetherParts_12 : decode cX1_togetherParts 12 = .ok (.ldc2_w 30, 3) := by decide +kernel
theorem dX1_togetherParts_15 : decode cX1_togetherParts 15 = .ok (.aload_n 0, 1) := by decide +kernel
theorem dX1_togetherParts_16 : decode cX1_togetherParts 16 = .ok (.getfield 11, 3) := by decide +kernel
theorem dX1_togetherParts_19 : decode cX1_togetherParts 19 = .ok (.iload 4, 2) := by decide +kernel
theorem dX1_togetherParts_21 : decode cX1_togetherParts 21 = .ok (.aaload, 1) := by decide +kernel
theorem dX1_togetherParts_22 : decode cX1_togetherParts 22 = .ok (.iload_n 1, 1) := by decide +kernel
theorem dX1_togetherParts_23 : decode cX1_togetherParts 23 = .ok (.iconst 0, 1) := by decide +kernel
theorem dX1_togetherParts_24 : decode cX1_togetherParts 24 = .ok (.iconst 0, 1) := by decide +kernel
theorem dX1_togetherParts_25 : decode cX1_togetherParts 25 = .ok (.invokevirtual 32, 3) := by decide +kernel
theorem dX1_togetherParts_28 : decode cX1_togetherParts 28 = .ok (.lsub, 1) := by decide +kernel
theorem dX1_togetherParts_29 : decode cX1_togetherParts 29 = .ok (.lmul, 1) := by decide +kernel
theorem dX1_togetherParts_30 : decode cX1_togetherParts 30 = .ok (.lstore_n 2, 1) := by decide +kernel
theorem dX1_togetherParts_31 : decode cX1_togetherParts 31 = .ok (.iinc 4 1, 3) := by decide +kernel
theorem dX1_togetherParts_34 : decode cX1_togetherParts 34 = .ok (.goto (-29), 3) := by decide +kernel
theorem dX1_togetherParts_37 : decode cX1_togetherParts 37 = .ok (.ldc2_w 36, 3) := by decide +kernel
theorem dX1_togetherParts_40 : decode cX1_togetherParts 40 = .ok (.lload_n 2, 1) := by decide +kernel
theorem dX1_togetherParts_41 : decode cX1_togetherParts 41 = .ok (.lsub, 1) := by decide +kernel
theorem dX1_togetherParts_42 : decode cX1_togetherParts 42 = .ok (.lreturn, 1) := by decide +kernel
set_option maxRecDepth 20000 in
theorem ggX1_mostCoveredDot_X1_togetherParts : GoodIn wsX1_mostCoveredDot wsX1_togetherParts := goodIn_r _ [5, 6, 7, 8, 9, 10, 11, 12, 13, 14, 15, 16, 17, 18, 19, 20, 21, 22, 23, 24, 25, 26, 27, 28, 29, 30, 31, 32, 33, 34, 35, 36, 37, 38, 39, 40, 41, 42, 43, 44, 45, 46, 47, 48, 49, 50, 51] (by decide +kernel) (by decide +kernel)
set_option maxRecDepth 20000 in
theorem gX1_mostCoveredDot_X1_togetherParts : GoodIn wsX1_mostCoveredDot (wsV RX1 38 RX1 yX1_togetherParts wsX1_togetherParts) := goodIn_app (goodIn_of _ (by decide +kernel)) ggX1_mostCoveredDot_X1_togetherParts
theorem dX1_mostCoveredDot_0 : decode cX1_mostCoveredDot 0 = .ok (.iconst 0, 1) := by decide +kernel
theorem dX1_mostCoveredDot_1 : decode cX1_mostCoveredDot 1 = .ok (.istore_n 1, 1) := by decide +kernel
theorem dX1_mostCoveredDot_2 : decode cX1_mostCoveredDot 2 = .ok (.aload_n 0, 1) := by decide +kernel
theorem dX1_mostCoveredDot_3 : decode cX1_mostCoveredDot 3 = .ok (.iconst 0, 1) := by decide +kernel
theorem dX1_mostCoveredDot_4 : decode cX1_mostCoveredDot 4 = .ok (.invokevirtual 38, 3) := by decide +kernel
theorem dX1_mostCoveredDot_7 : decode cX1_mostCoveredDot 7 = .ok (.lstore_n 2, 1) := by decide +kernel
theorem dX1_mostCoveredDot_8 : decode cX1_mostCoveredDot 8 = .ok (.iconst 1, 1) := by decide +kernel
theorem dX1_mostCoveredDot_9 : decode cX1_mostCoveredDot 9 = .ok (.istore 4, 2) := by decide +kernel
theorem dX1_mostCoveredDot_11 : decode cX1_mostCoveredDot 11 = .ok (.iload 4, 2) := by decide +kernel
theorem dX1_mostCoveredDot_13 : decode cX1_mostCoveredDot 13 = .ok (.bipush 16, 2) := by decide +kernel
theorem dX1_mostCoveredDot_15 : decode cX1_mostCoveredDot 15 = .ok (.if_icmp .ge 30, 3) := by decide +kernel
theorem dX1_mostCoveredDot_18 : decode cX1_mostCoveredDot 18 = .ok (.aload_n 0, 1) := by decide +kernel
theorem dX1_mostCoveredDot_19 : decode cX1_mostCoveredDot 19 = .ok (.iload 4, 2) := by decide +kernel
theorem dX1_mostCoveredDot_21 : decode cX1_mostCoveredDot 21 = .ok (.invokevirtual 38, 3) := by decide +kernel
theorem dX1_mostCoveredDot_24 : decode cX1_mostCoveredDot 24 = .ok (.lstore 5, 2) := by decide +kernel
theorem dX1_mostCoveredDot_26 : decode cX1_mostCoveredDot 26 = .ok (.lload 5, 2) := by decide +kernel
theorem dX1_mostCoveredDot_28 : decode cX1_mostCoveredDot 28 = .ok (.lload_n 2, 1) := by decide +kernel
theorem dX1_mostCoveredDot_29 : decode cX1_mostCoveredDot 29 = .ok (.lcmp, 1) := by decide +kernel
theorem dX1_mostCoveredDot_30 : decode cX1_mostCoveredDot 30 = .ok (.ifCond .le 9, 3) := by decide +kernel
theorem dX1_mostCoveredDot_33 : decode cX1_mostCoveredDot 33 = .ok (.lload 5, 2) := by decide +kernel
theorem dX1_mostCoveredDot_35 : decode cX1_mostCoveredDot 35 = .ok (.lstore_n 2, 1) := by decide +kernel
theorem dX1_mostCoveredDot_36 : decode cX1_mostCoveredDot 36 = .ok (.iload 4, 2) := by decide +kernel
theorem dX1_mostCoveredDot_38 : decode cX1_mostCoveredDot 38 = .ok (.istore_n 1, 1) := by decide +kernel
theorem dX1_mostCoveredDot_39 : decode cX1_mostCoveredDot 39 = .ok (.iinc 4 1, 3) := by decide +kernel
theorem dX1_mostCoveredDot_42 : decode cX1_mostCoveredDot 42 = .ok (.goto (-31), 3) := by decide +kernel
theorem dX1_mostCoveredDot_45 : decode cX1_mostCoveredDot 45 = .ok (.iload_n 1, 1) := by decide +kernel
theorem dX1_mostCoveredDot_46 : decode cX1_mostCoveredDot 46 = .ok (.ireturn, 1) := by decide +kernel
set_option maxRecDepth 20000 in
theorem ggX1_leastCoveredDot_X1_togetherParts : GoodIn wsX1_leastCoveredDot wsX1_togetherParts := goodIn_r _ [5, 6, 7, 8, 9, 10, 11, 12, 13, 14, 15, 16, 17, 18, 19, 20, 21, 22, 23, 24, 25, 26, 27, 28, 29, 30, 31, 32, 33, 34, 35, 36, 37, 38, 39, 40, 41, 42, 43, 44, 45, 46, 47, 48, 49, 50, 51] (by decide +kernel) (by decide +kernel)
set_option maxRecDepth 20000 in
theorem gX1_leastCoveredDot_X1_togetherParts : GoodIn wsX1_leastCoveredDot (wsV RX1 38 RX1 yX1_togetherParts wsX1_togetherParts) := goodIn_app (goodIn_of _ (by decide +kernel)) ggX1_leastCoveredDot_X1_togetherParts
theorem dX1_leastCoveredDot_0 : decode cX1_leastCoveredDot 0 = .ok (.iconst 0, 1) := by decide +kernel
theorem dX1_leastCoveredDot_1 : decode cX1_leastCoveredDot 1 = .ok (.istore_n 1, 1) := by decide +kernel
theorem dX1_leastCoveredDot_2 : decode cX1_leastCoveredDot 2 = .ok (.aload_n 0, 1) := by decide +kernel
theorem dX1_leastCoveredDot_3 : decode cX1_leastCoveredDot 3 = .ok (.iconst 0, 1) := by decide +kernel
theorem dX1_leastCoveredDot_4 : decode cX1_leastCoveredDot 4 = .ok (.invokevirtual 38, 3) := by decide +kernel
theorem dX1_leastCoveredDot_7 : decode cX1_leastCoveredDot 7 = .ok (.lstore_n 2, 1) := by decide +kernel
theorem dX1_leastCoveredDot_8 : decode cX1_leastCoveredDot 8 = .ok (.iconst 1, 1) := by decide +kernel
theorem dX1_leastCoveredDot_9 : decode cX1_leastCoveredDot 9 = .ok (.istore 4, 2) := by decide +kernel
theorem dX1_leastCoveredDot_11 : decode cX1_leastCoveredDot 11 = .ok (.iload 4, 2) := by decide +kernel
theorem dX1_leastCoveredDot_13 : decode cX1_leastCoveredDot 13 = .ok (.bipush 16, 2) := by decide +kernel
theorem dX1_leastCoveredDot_15 : decode cX1_leastCoveredDot 15 = .ok (.if_icmp .ge 30, 3) := by decide +kernel
theorem dX1_leastCoveredDot_18 : decode cX1_leastCoveredDot 18 = .ok (.aload_n 0, 1) := by decide +kernel
theorem dX1_leastCoveredDot_19 : decode cX1_leastCoveredDot 19 = .ok (.iload 4, 2) := by decide +kernel
theorem dX1_leastCoveredDot_21 : decode cX1_leastCoveredDot 21 = .ok (.invokevirtual 38, 3) := by decide +kernel
theorem dX1_leastCoveredDot_24 : decode cX1_leastCoveredDot 24 = .ok (.lstore 5, 2) := by decide +kernel
theorem dX1_leastCoveredDot_26 : decode cX1_leastCoveredDot 26 = .ok (.lload 5, 2) := by decide +kernel
theorem dX1_leastCoveredDot_28 : decode cX1_leastCoveredDot 28 = .ok (.lload_n 2, 1) := by decide +kernel
theorem dX1_leastCoveredDot_29 : decode cX1_leastCoveredDot 29 = .ok (.lcmp, 1) := by decide +kernel
theorem dX1_leastCoveredDot_30 : decode cX1_leastCoveredDot 30 = .ok (.ifCond .ge 9, 3) := by decide +kernel
theorem dX1_leastCoveredDot_33 : decode cX1_leastCoveredDot 33 = .ok (.lload 5, 2) := by decide +kernel
theorem dX1_leastCoveredDot_35 : decode cX1_leastCoveredDot 35 = .ok (.lstore_n 2, 1) := by decide +kernel
theorem dX1_leastCoveredDot_36 : decode cX1_leastCoveredDot 36 = .ok (.iload 4, 2) := by decide +kernel
theorem dX1_leastCoveredDot_38 : decode cX1_leastCoveredDot 38 = .ok (.istore_n 1, 1) := by decide +kernel
theorem dX1_leastCoveredDot_39 : decode cX1_leastCoveredDot 39 = .ok (.iinc 4 1, 3) := by decide +kernel
theorem dX1_leastCoveredDot_42 : decode cX1_leastCoveredDot 42 = .ok (.goto (-31), 3) := by decide +kernel
theorem dX1_leastCoveredDot_45 : decode cX1_leastCoveredDot 45 = .ok (.iload_n 1, 1) := by decide +kernel
theorem dX1_leastCoveredDot_46 : decode cX1_leastCoveredDot 46 = .ok (.ireturn, 1) := by decide +kernel
set_option maxRecDepth 20000 in
theorem ggX1_dotsWithTogether_X1_togetherParts : GoodIn wsX1_dotsWithTogether wsX1_togetherParts := goodIn_r _ [5, 6, 7, 8, 9, 10, 11, 12, 13, 14, 15, 16, 17, 18, 19, 20, 21, 22, 23, 24, 25, 26, 27, 28, 29, 30, 31, 32, 33, 34, 35, 36, 37, 38, 39, 40, 41, 42, 43, 44, 45, 46, 47, 48, 49, 50, 51] (by decide +kernel) (by decide +kernel)
set_option maxRecDepth 20000 in
theorem gX1_dotsWithTogether_X1_togetherParts : GoodIn wsX1_dotsWithTogether (wsV RX1 38 RX1 yX1_togetherParts wsX1_togetherParts) := goodIn_app (goodIn_of _ (by decide +kernel)) ggX1_dotsWithTogether_X1_togetherParts
theorem dX1_dotsWithTogether_0 : decode cX1_dotsWithTogether 0 = .ok (.iconst 0, 1) := by decide +kernel
theorem dX1_dotsWithTogether_1 : decode cX1_dotsWithTogether 1 = .ok (.istore_n 3, 1) := by decide +kernel
theorem dX1_dotsWithTogether_2 : decode cX1_dotsWithTogether 2 = .ok (.iconst 0, 1) := by decide +kernel
theorem dX1_dotsWithTogether_3 : decode cX1_dotsWithTogether 3 = .ok (.istore 4, 2) := by decide +kernel
theorem dX1_dotsWithTogether_5 : decode cX1_dotsWithTogether 5 = .ok (.iload 4, 2) := by decide +kernel
theorem dX1_dotsWithTogether_7 : decode cX1_dotsWithTogether 7 = .ok (.bipush 16, 2) := by decide +kernel
theorem dX1_dotsWithTogether_9 : decode cX1_dotsWithTogether 9 = .ok (.if_icmp .ge 23, 3) := by decide +kernel
theorem dX1_dotsWithTogether_12 : decode cX1_dotsWithTogether 12 = .ok (.aload_n 0, 1) := by decide +kernel
theorem dX1_dotsWithTogether_13 : decode cX1_dotsWithTogether 13 = .ok (.iload 4, 2) := by decide +kernel
theorem dX1_dotsWithTogether_15 : decode cX1_dotsWithTogether 15 = .ok (.invokevirtual 38, 3) := by decide +kernel
theorem dX1_dotsWithTogether_18 : decode cX1_dotsWithTogether 18 = .ok (.lload_n 1, 1) := by decide +kernel
theorem dX1_dotsWithTogether_19 : decode cX1_dotsWithTogether 19 = .ok (.lcmp, 1) := by decide +kernel
theorem dX1_dotsWithTogether_20 : decode cX1_dotsWithTogether 20 = .ok (.ifCond .ne 6, 3) := by decide +kernel
theorem dX1_dotsWithTogether_23 : decode cX1_dotsWithTogether 23 = .ok (.iinc 3 1, 3) := by decide +kernel
theorem dX1_dotsWithTogether_26 : decode cX1_dotsWithTogether 26 = .ok (.iinc 4 1, 3) := by decide +kernel
theorem dX1_dotsWithTogether_29 : decode cX1_dotsWithTogether 29 = .ok (.goto (-24), 3) := by decide +kernel
theorem dX1_dotsWithTogether_32 : decode cX1_dotsWithTogether 32 = .ok (.iload_n 3, 1) := by decide +kernel
theorem dX1_dotsWithTogether_33 : decode cX1_dotsWithTogether 33 = .ok (.ireturn, 1) := by decide +kernel
set_option maxRecDepth 20000 in
theorem ggX2_init_X1_init : GoodIn wsX2_init wsX1_init := goodIn_r _ [12, 13, 2, 3, 14, 15, 16, 17, 18, 19, 20, 21, 22, 23, 24, 25, 26, 27, 31, 32, 33, 34] (by decide +kernel) (by decide +kernel)
set_option maxRecDepth 20000 in
theorem gX2_init_X1_init : GoodIn wsX2_init (wsX1_init) := ggX2_init_X1_init
theorem dX2_init_0 : decode cX2_init 0 = .ok (.aload_n 0, 1) := by decide +kernel
theorem dX2_init_1 : decode cX2_init 1 = .ok (.invokespecial 3, 3) := by decide +kernel
theorem dX2_init_4 : decode cX2_init 4 = .ok (.aload_n 0, 1) := by decide +kernel
theorem dX2_init_5 : decode cX2_init 5 = .ok (.new 9, 3) := by decide +kernel
theorem dX2_init_8 : decode cX2_init 8 = .ok (.dup, 1) := by decide +kernel
theorem dX2_init_9 : decode cX2_init 9 = .ok (.invokespecial 11, 3) := by decide +kernel
theorem dX2_init_12 : decode cX2_init 12 = .ok (.putfield 12, 3) := by decide +kernel
theorem dX2_init_15 : decode cX2_init 15 = .ok (.aload_n 0, 1) := by decide +kernel
theorem dX2_init_16 : decode cX2_init 16 = .ok (.iconst 2, 1) := by decide +kernel
theorem dX2_init_17 : decode cX2_init 17 = .ok (.anewarray 9, 3) := by decide +kernel
theorem dX2_init_20 : decode cX2_init 20 = .ok (.putfield 16, 3) := by decide +kernel
theorem dX2_init_23 : decode cX2_init 23 = .ok (.iconst 0, 1) := by decide +kernel
theorem dX2_init_24 : decode cX2_init 24 = .ok (.istore_n 1, 1) := by decide +kernel
theorem dX2_init_25 : decode cX2_init 25 = .ok (.iload_n 1, 1) := by decide +kernel
theorem dX2_init_26 : decode cX2_init 26 = .ok (.iconst 2, 1) := by decide +kernel
theorem dX2_init_27 : decode cX2_init 27 = .ok (.if_icmp .ge 22, 3) := by decide +kernel
theorem dX2_init_30 : decode cX2_init 30 = .ok (.aload_n 0, 1) := by decide +kernel
theorem dX2_init_31 : decode cX2_init 31 = .ok (.getfield 16, 3) := by decide +kernel
theorem dX2_init_34 : decode cX2_init 34 = .ok (.iload_n 1, 1) := by decide +kernel
theorem dX2_init_35 : decode cX2_init 35 = .ok (.new 9, 3) := by decide +kernel
theorem dX2_init_38 : decode cX2_init 38 = .ok (.dup, 1) := by decide +kernel
theorem dX2_init_39 : decode cX2_init 39 = .ok (.invokespecial 11, 3) := by decide +kernel
theorem dX2_init_42 : decode cX2_init 42 = .ok (.aastore, 1) := by decide +kernel
theorem dX2_init_43 : decode cX2_init 43 = .ok (.iinc 1 1, 3) := by decide +kernel
theorem dX2_init_46 : decode cX2_init 46 = .ok (.goto (-21), 3) := by decide +kernel
theorem dX2_init_49 : decode cX2_init 49 = .ok (.aload_n 0, 1) := by decide +kernel
theorem dX2_init_50 : decode cX2_init 50 = .ok (.iconst 0, 1) := by decide +kernel
theorem dX2_init_51 : decode cX2_init 51 = .ok (.putfield 20, 3) := by decide +kernel
theorem dX2_init_54 : decode cX2_init 54 = .ok (.return_, 1) := by decide +kernel
set_option maxRecDepth 20000 in
theorem ggX2_point_X1_layerOf : GoodIn wsX2_point wsX1_layerOf := goodIn_r _ [6, 7, 8, 9, 10, 30] (by decide +kernel) (by decide +kernel)
set_option maxRecDepth 20000 in
theorem gX2_point_X1_layerOf : GoodIn wsX2_point (wsV RX2 24 RX1 yX1_layerOf wsX1_layerOf) := goodIn_app (goodIn_of _ (by decide +kernel)) ggX2_point_X1_layerOf
set_option maxRecDepth 20000 in
theorem ggX2_point_X2_inField : GoodIn wsX2_point wsX2_inField := goodIn_r _ [13, 14, 8, 9, 10] (by decide +kernel) (by decide +kernel)
set_option maxRecDepth 20000 in
theorem gX2_point_X2_inField : GoodIn wsX2_point (va_wsS RX2 28 yX2_inField wsX2_inField) := goodIn_app (goodIn_of _ (by decide +kernel)) ggX2_point_X2_inField
set_option maxRecDepth 20000 in
theorem ggX2_point_X0_add : GoodIn wsX2_point wsX0_add := goodIn_r _ [19, 20, 21, 22, 26, 27, 28, 29] (by decide +kernel) (by decide +kernel)
set_option maxRecDepth 20000 in
theorem gX2_point_X0_add : GoodIn wsX2_point (wsV RX2 37 RX0 yX0_add wsX0_add) := goodIn_app (goodIn_of _ (by decide +kernel)) ggX2_point_X0_add
theorem dX2_point_0 : decode cX2_point 0 = .ok (.aload_n 0, 1) := by decide +kernel
theorem dX2_point_1 : decode cX2_point 1 = .ok (.getfield 12, 3) := by decide +kernel
theorem dX2_point_4 : decode cX2_point 4 = .ok (.iload_n 1, 1) := by decide +kernel
theorem dX2_point_5 : decode cX2_point 5 = .ok (.invokevirtual 24, 3) := by decide +kernel
theorem dX2_point_8 : decode cX2_point 8 = .ok (.astore 4, 2) := by decide +kernel
theorem dX2_point_10 : decode cX2_point 10 = .ok (.aload 4, 2) := by decide +kernel
theorem dX2_point_12 : decode cX2_point 12 = .ok (.ifnonnull 5, 3) := by decide +kernel
theorem dX2_point_15 : decode cX2_point 15 = .ok (.iconst (-1), 1) := by decide +kernel
theorem dX2_point_16 : decode cX2_point 16 = .ok (.ireturn, 1) := by decide +kernel
theorem dX2_point_17 : decode cX2_point 17 = .ok (.iload_n 2, 1) := by decide +kernel
theorem dX2_point_18 : decode cX2_point 18 = .ok (.invokestatic 28, 3) := by decide +kernel
theorem dX2_point_21 : decode cX2_point 21 = .ok (.ifCond .eq 10, 3) := by decide +kernel
theorem dX2_point_24 : decode cX2_point 24 = .ok (.iload_n 3, 1) := by decide +kernel
theorem dX2_point_25 : decode cX2_point 25 = .ok (.invokestatic 28, 3) := by decide +kernel
theorem dX2_point_28 : decode cX2_point 28 = .ok (.ifCond .ne 6, 3) := by decide +kernel
theorem dX2_point_31 : decode cX2_point 31 = .ok (.bipush (-2), 2) := by decide +kernel
theorem dX2_point_33 : decode cX2_point 33 = .ok (.ireturn, 1) := by decide +kernel
theorem dX2_point_34 : decode cX2_point 34 = .ok (.aload 4, 2) := by decide +kernel
theorem dX2_point_36 : decode cX2_point 36 = .ok (.getfield 32, 3) := by decide +kernel
theorem dX2_point_39 : decode cX2_point 39 = .ok (.bipush 8, 2) := by decide +kernel
theorem dX2_point_41 : decode cX2_point 41 = .ok (.if_icmp .lt 6, 3) := by decide +kernel
theorem dX2_point_44 : decode cX2_point 44 = .ok (.bipush (-4), 2) := by decide +kernel
theorem dX2_point_46 : decode cX2_point 46 = .ok (.ireturn, 1) := by decide +kernel
theorem dX2_point_47 : decode cX2_point 47 = .ok (.aload 4, 2) := by decide +kernel
theorem dX2_point_49 : decode cX2_point 49 = .ok (.iload_n 2, 1) := by decide +kernel
theorem dX2_point_50 : decode cX2_point 50 = .ok (.iload_n 3, 1) := by decide +kernel
theorem dX2_point_51 : decode cX2_point 51 = .ok (.invokevirtual 37, 3) := by decide +kernel
theorem dX2_point_54 : decode cX2_point 54 = .ok (.ireturn, 1) := by decide +kernel
set_option maxRecDepth 20000 in
theorem ggX2_pop_X1_layerOf : GoodIn wsX2_pop wsX1_layerOf := goodIn_r _ [6, 7, 8, 9, 10, 18] (by decide +kernel) (by decide +kernel)
set_option maxRecDepth 20000 in
theorem gX2_pop_X1_layerOf : GoodIn wsX2_pop (wsV RX2 24 RX1 yX1_layerOf wsX1_layerOf) := goodIn_app (goodIn_of _ (by decide +kernel)) ggX2_pop_X1_layerOf
theorem dX2_pop_0 : decode cX2_pop 0 = .ok (.aload_n 0, 1) := by decide +kernel
theorem dX2_pop_1 : decode cX2_pop 1 = .ok (.getfield 12, 3) := by decide +kernel
theorem dX2_pop_4 : decode cX2_pop 4 = .ok (.iload_n 1, 1) := by decide +kernel
theorem dX2_pop_5 : decode cX2_pop 5 = .ok (.invokevirtual 24, 3) := by decide +kernel
theorem dX2_pop_8 : decode cX2_pop 8 = .ok (.astore_n 2, 1) := by decide +kernel
theorem dX2_pop_9 : decode cX2_pop 9 = .ok (.aload_n 2, 1) := by decide +kernel
theorem dX2_pop_10 : decode cX2_pop 10 = .ok (.ifnonnull 5, 3) := by decide +kernel
theorem dX2_pop_13 : decode cX2_pop 13 = .ok (.iconst (-1), 1) := by decide +kernel
theorem dX2_pop_14 : decode cX2_pop 14 = .ok (.ireturn, 1) := by decide +kernel
theorem dX2_pop_15 : decode cX2_pop 15 = .ok (.aload_n 2, 1) := by decide +kernel
theorem dX2_pop_16 : decode cX2_pop 16 = .ok (.getfield 32, 3) := by decide +kernel
theorem dX2_pop_19 : decode cX2_pop 19 = .ok (.ifCond .gt 6, 3) := by decide +kernel
theorem dX2_pop_22 : decode cX2_pop 22 = .ok (.bipush (-3), 2) := by decide +kernel
theorem dX2_pop_24 : decode cX2_pop 24 = .ok (.ireturn, 1) := by decide +kernel
theorem dX2_pop_25 : decode cX2_pop 25 = .ok (.aload_n 2, 1) := by decide +kernel
theorem dX2_pop_26 : decode cX2_pop 26 = .ok (.dup, 1) := by decide +kernel
theorem dX2_pop_27 : decode cX2_pop 27 = .ok (.getfield 32, 3) := by decide +kernel
theorem dX2_pop_30 : decode cX2_pop 30 = .ok (.iconst 1, 1) := by decide +kernel
theorem dX2_pop_31 : decode cX2_pop 31 = .ok (.isub, 1) := by decide +kernel
theorem dX2_pop_32 : decode cX2_pop 32 = .ok (.putfield 32, 3) := by decide +kernel
theorem dX2_pop_35 : decode cX2_pop 35 = .ok (.aload_n 2, 1) := by decide +kernel
theorem dX2_pop_36 : decode cX2_pop 36 = .ok (.getfield 32, 3) := by decide +kernel
theorem dX2_pop_39 : decode cX2_pop 39 = .ok (.ireturn, 1) := by decide +kernel
set_option maxRecDepth 20000 in
theorem ggX2_set_X1_layerOf : GoodIn wsX2_set wsX1_layerOf := goodIn_r _ [6, 7, 8, 9, 10, 28] (by decide +kernel) (by decide +kernel)
set_option maxRecDepth 20000 in
theorem gX2_set_X1_layerOf : GoodIn wsX2_set (wsV RX2 24 RX1 yX1_layerOf wsX1_layerOf) := goodIn_app (goodIn_of _ (by decide +kernel)) ggX2_set_X1_layerOf
set_option maxRecDepth 20000 in
theorem ggX2_set_X0_has : GoodIn wsX2_set wsX0_has := goodIn_r _ [15, 16, 24, 25, 26, 27] (by decide +kernel) (by decide +kernel)
set_option maxRecDepth 20000 in
theorem gX2_set_X0_has : GoodIn wsX2_set (wsV RX2 41 RX0 yX0_has wsX0_has) := goodIn_app (goodIn_of _ (by decide +kernel)) ggX2_set_X0_has
set_option maxRecDepth 20000 in
theorem ggX2_set_X2_inField : GoodIn wsX2_set wsX2_inField := goodIn_r _ [19, 20, 8, 9, 10] (by decide +kernel) (by decide +kernel)
set_option maxRecDepth 20000 in
theorem gX2_set_X2_inField : GoodIn wsX2_set (va_wsS RX2 28 yX2_inField wsX2_inField) := goodIn_app (goodIn_of _ (by decide +kernel)) ggX2_set_X2_inField
theorem dX2_set_0 : decode cX2_set 0 = .ok (.aload_n 0, 1) := by decide +kernel
theorem dX2_set_1 : decode cX2_set 1 = .ok (.getfield 12, 3) := by decide +kernel
theorem dX2_set_4 : decode cX2_set 4 = .ok (.iload_n 1, 1) := by decide +kernel
theorem dX2_set_5 : decode cX2_set 5 = .ok (.invokevirtual 24, 3) := by decide +kernel
theorem dX2_set_8 : decode cX2_set 8 = .ok (.astore 5, 2) := by decide +kernel
theorem dX2_set_10 : decode cX2_set 10 = .ok (.aload 5, 2) := by decide +kernel
theorem dX2_set_12 : decode cX2_set 12 = .ok (.ifnull 12, 3) := by decide +kernel
theorem dX2_set_15 : decode cX2_set 15 = .ok (.aload 5, 2) := by decide +kernel
theorem dX2_set_17 : decode cX2_set 17 = .ok (.iload_n 2, 1) := by decide +kernel
theorem dX2_set_18 : decode cX2_set 18 = .ok (.invokevirtual 41, 3) := by decide +kernel
theorem dX2_set_21 : decode cX2_set 21 = .ok (.ifCond .ne 5, 3) := by decide +kernel
theorem dX2_set_24 : decode cX2_set 24 = .ok (.iconst (-1), 1) := by decide +kernel
theorem dX2_set_25 : decode cX2_set 25 = .ok (.ireturn, 1) := by decide +kernel
theorem dX2_set_26 : decode cX2_set 26 = .ok (.iload_n 3, 1) := by decide +kernel
theorem dX2_set_27 : decode cX2_set 27 = .ok (.invokestatic 28, 3) := by decide +kernel
theorem dX2_set_30 : decode cX2_set 30 = .ok (.ifCond .eq 11, 3) := by decide +kernel
theorem dX2_set_33 : decode cX2_set 33 = .ok (.iload 4, 2) := by decide +kernel
theorem dX2_set_35 : decode cX2_set 35 = .ok (.invokestatic 28, 3) := by decide +kernel
theorem dX2_set_38 : decode cX2_set 38 = .ok (.ifCond .ne 6, 3) := by decide +kernel
theorem dX2_set_41 : decode cX2_set 41 = .ok (.bipush (-2), 2) := by decide +kernel
theorem dX2_set_43 : decode cX2_set 43 = .ok (.ireturn, 1) := by decide +kernel
theorem dX2_set_44 : decode cX2_set 44 = .ok (.bipush 13, 2) := by decide +kernel
theorem dX2_set_46 : decode cX2_set 46 = .ok (.aload 5, 2) := by decide +kernel
theorem dX2_set_48 : decode cX2_set 48 = .ok (.getfield 44, 3) := by decide +kernel
theorem dX2_set_51 : decode cX2_set 51 = .ok (.iload_n 2, 1) := by decide +kernel
theorem dX2_set_52 : decode cX2_set 52 = .ok (.iaload, 1) := by decide +kernel
theorem dX2_set_53 : decode cX2_set 53 = .ok (.imul, 1) := by decide +kernel
theorem dX2_set_54 : decode cX2_set 54 = .ok (.aload 5, 2) := by decide +kernel
theorem dX2_set_56 : decode cX2_set 56 = .ok (.getfield 48, 3) := by decide +kernel
theorem dX2_set_59 : decode cX2_set 59 = .ok (.iload_n 2, 1) := by decide +kernel
theorem dX2_set_60 : decode cX2_set 60 = .ok (.iaload, 1) := by decide +kernel
theorem dX2_set_61 : decode cX2_set 61 = .ok (.iadd, 1) := by decide +kernel
theorem dX2_set_62 : decode cX2_set 62 = .ok (.istore 6, 2) := by decide +kernel
theorem dX2_set_64 : decode cX2_set 64 = .ok (.aload 5, 2) := by decide +kernel
theorem dX2_set_66 : decode cX2_set 66 = .ok (.getfield 44, 3) := by decide +kernel
theorem dX2_set_69 : decode cX2_set 69 = .ok (.iload_n 2, 1) := by decide +kernel
theorem dX2_set_70 : decode cX2_set 70 = .ok (.iload_n 3, 1) := by decide +kernel
theorem dX2_set_71 : decode cX2_set 71 = .ok (.iastore, 1) := by decide +kernel
theorem dX2_set_72 : decode cX2_set 72 = .ok (.aload 5, 2) := by decide +kernel
theorem dX2_set_74 : decode cX2_set 74 = .ok (.getfield 48, 3) := by decide +kernel
theorem dX2_set_77 : decode cX2_set 77 = .ok (.iload_n 2, 1) := by decide +kernel
theorem dX2_set_78 : decode cX2_set 78 = .ok (.iload 4, 2) := by decide +kernel
theorem dX2_set_80 : decode cX2_set 80 = .ok (.iastore, 1) := by decide +kernel
theorem dX2_set_81 : decode cX2_set 81 = .ok (.iload 6, 2) := by decide +kernel
theorem dX2_set_83 : decode cX2_set 83 = .ok (.ireturn, 1) := by decide +kernel
set_option maxRecDepth 20000 in
theorem ggX2_rule_X1_layerOf : GoodIn wsX2_rule wsX1_layerOf := goodIn_r _ [6, 7, 8, 9, 10, 19] (by decide +kernel) (by decide +kernel)
set_option maxRecDepth 20000 in
theorem gX2_rule_X1_layerOf : GoodIn wsX2_rule (wsV RX2 24 RX1 yX1_layerOf wsX1_layerOf) := goodIn_app (goodIn_of _ (by decide +kernel)) ggX2_rule_X1_layerOf
set_option maxRecDepth 20000 in
theorem ggX2_rule_X2_within : GoodIn wsX2_rule wsX2_within := goodIn_r _ [10] (by decide +kernel) (by decide +kernel)
set_option maxRecDepth 20000 in
theorem gX2_rule_X2_within : GoodIn wsX2_rule (va_wsS RX2 51 yX2_within wsX2_within) := goodIn_app (goodIn_of _ (by decide +kernel)) ggX2_rule_X2_within
theorem dX2_rule_0 : decode cX2_rule 0 = .ok (.aload_n 0, 1) := by decide +kernel
theorem dX2_rule_1 : decode cX2_rule 1 = .ok (.getfield 12, 3) := by decide +kernel
theorem dX2_rule_4 : decode cX2_rule 4 = .ok (.iload_n 1, 1) := by decide +kernel
theorem dX2_rule_5 : decode cX2_rule 5 = .ok (.invokevirtual 24, 3) := by decide +kernel
theorem dX2_rule_8 : decode cX2_rule 8 = .ok (.astore_n 3, 1) := by decide +kernel
theorem dX2_rule_9 : decode cX2_rule 9 = .ok (.aload_n 3, 1) := by decide +kernel
theorem dX2_rule_10 : decode cX2_rule 10 = .ok (.ifnonnull 5, 3) := by decide +kernel
theorem dX2_rule_13 : decode cX2_rule 13 = .ok (.iconst (-1), 1) := by decide +kernel
theorem dX2_rule_14 : decode cX2_rule 14 = .ok (.ireturn, 1) := by decide +kernel
theorem dX2_rule_15 : decode cX2_rule 15 = .ok (.iload_n 2, 1) := by decide +kernel
theorem dX2_rule_16 : decode cX2_rule 16 = .ok (.iconst 0, 1) := by decide +kernel
theorem dX2_rule_17 : decode cX2_rule 17 = .ok (.iconst 1, 1) := by decide +kernel
theorem dX2_rule_18 : decode cX2_rule 18 = .ok (.invokestatic 51, 3) := by decide +kernel
theorem dX2_rule_21 : decode cX2_rule 21 = .ok (.ifCond .ne 6, 3) := by decide +kernel
theorem dX2_rule_24 : decode cX2_rule 24 = .ok (.bipush (-2), 2) := by decide +kernel
theorem dX2_rule_26 : decode cX2_rule 26 = .ok (.ireturn, 1) := by decide +kernel
theorem dX2_rule_27 : decode cX2_rule 27 = .ok (.aload_n 3, 1) := by decide +kernel
theorem dX2_rule_28 : decode cX2_rule 28 = .ok (.getfield 55, 3) := by decide +kernel
theorem dX2_rule_31 : decode cX2_rule 31 = .ok (.istore 4, 2) := by decide +kernel
theorem dX2_rule_33 : decode cX2_rule 33 = .ok (.aload_n 3, 1) := by decide +kernel
theorem dX2_rule_34 : decode cX2_rule 34 = .ok (.iload_n 2, 1) := by decide +kernel
theorem dX2_rule_35 : decode cX2_rule 35 = .ok (.putfield 55, 3) := by decide +kernel
theorem dX2_rule_38 : decode cX2_rule 38 = .ok (.iload 4, 2) := by decide +kernel
theorem dX2_rule_40 : decode cX2_rule 40 = .ok (.ireturn, 1) := by decide +kernel
set_option maxRecDepth 20000 in
theorem ggX2_move_X1_layerOf : GoodIn wsX2_move wsX1_layerOf := goodIn_r _ [6, 7, 8, 9, 10, 33] (by decide +kernel) (by decide +kernel)
set_option maxRecDepth 20000 in
theorem gX2_move_X1_layerOf : GoodIn wsX2_move (wsV RX2 24 RX1 yX1_layerOf wsX1_layerOf) := goodIn_app (goodIn_of _ (by decide +kernel)) ggX2_move_X1_layerOf
set_option maxRecDepth 20000 in
theorem ggX2_move_X2_within : GoodIn wsX2_move wsX2_within := goodIn_r _ [10] (by decide +kernel) (by decide +kernel)
set_option maxRecDepth 20000 in
theorem gX2_move_X2_within : GoodIn wsX2_move (va_wsS RX2 51 yX2_within wsX2_within) := goodIn_app (goodIn_of _ (by decide +kernel)) ggX2_move_X2_within
set_option maxRecDepth 20000 in
theorem ggX2_move_X0_staysInField : GoodIn wsX2_move wsX0_staysInField := goodIn_r _ [16, 17, 18, 19, 20, 9, 21, 11, 8, 10, 29, 30, 31, 32] (by decide +kernel) (by decide +kernel)
set_option maxRecDepth 20000 in
theorem gX2_move_X0_staysInField : GoodIn wsX2_move (wsV RX2 58 RX0 yX0_staysInField wsX0_staysInField) := goodIn_app (goodIn_of _ (by decide +kernel)) ggX2_move_X0_staysInField
set_option maxRecDepth 20000 in
theorem ggX2_move_X0_shift : GoodIn wsX2_move wsX0_shift := goodIn_r _ [25, 17, 18, 19, 29, 30, 31, 32] (by decide +kernel) (by decide +kernel)
set_option maxRecDepth 20000 in
theorem gX2_move_X0_shift : GoodIn wsX2_move (wsV RX2 62 RX0 yX0_shift wsX0_shift) := goodIn_app (goodIn_of _ (by decide +kernel)) ggX2_move_X0_shift
theorem dX2_move_0 : decode cX2_move 0 = .ok (.aload_n 0, 1) := by decide +kernel
theorem dX2_move_1 : decode cX2_move 1 = .ok (.getfield 12, 3) := by decide +kernel
theorem dX2_move_4 : decode cX2_move 4 = .ok (.iload_n 1, 1) := by decide +kernel
theorem dX2_move_5 : decode cX2_move 5 = .ok (.invokevirtual 24, 3) := by decide +kernel
theorem dX2_move_8 : decode cX2_move 8 = .ok (.astore 4, 2) := by decide +kernel
theorem dX2_move_10 : decode cX2_move 10 = .ok (.aload 4, 2) := by decide +kernel
theorem dX2_move_12 : decode cX2_move 12 = .ok (.ifnonnull 5, 3) := by decide +kernel
theorem dX2_move_15 : decode cX2_move 15 = .ok (.iconst (-1), 1) := by decide +kernel
theorem dX2_move_16 : decode cX2_move 16 = .ok (.ireturn, 1) := by decide +kernel
theorem dX2_move_17 : decode cX2_move 17 = .ok (.iload_n 2, 1) := by decide +kernel
theorem dX2_move_18 : decode cX2_move 18 = .ok (.bipush (-12), 2) := by decide +kernel
theorem dX2_move_20 : decode cX2_move 20 = .ok (.bipush 12, 2) := by decide +kernel
theorem dX2_move_22 : decode cX2_move 22 = .ok (.invokestatic 51, 3) := by decide +kernel
theorem dX2_move_25 : decode cX2_move 25 = .ok (.ifCond .eq 14, 3) := by decide +kernel
theorem dX2_move_28 : decode cX2_move 28 = .ok (.iload_n 3, 1) := by decide +kernel
theorem dX2_move_29 : decode cX2_move 29 = .ok (.bipush (-12), 2) := by decide +kernel
theorem dX2_move_31 : decode cX2_move 31 = .ok (.bipush 12, 2) := by decide +kernel
theorem dX2_move_33 : decode cX2_move 33 = .ok (.invokestatic 51, 3) := by decide +kernel
theorem dX2_move_36 : decode cX2_move 36 = .ok (.ifCond .ne 6, 3) := by decide +kernel
theorem dX2_move_39 : decode cX2_move 39 = .ok (.bipush (-2), 2) := by decide +kernel
theorem dX2_move_41 : decode cX2_move 41 = .ok (.ireturn, 1) := by decide +kernel
theorem dX2_move_42 : decode cX2_move 42 = .ok (.aload 4, 2) := by decide +kernel
theorem dX2_move_44 : decode cX2_move 44 = .ok (.iload_n 2, 1) := by decide +kernel
theorem dX2_move_45 : decode cX2_move 45 = .ok (.iload_n 3, 1) := by decide +kernel
theorem dX2_move_46 : decode cX2_move 46 = .ok (.invokevirtual 58, 3) := by decide +kernel
theorem dX2_move_49 : decode cX2_move 49 = .ok (.ifCond .ne 6, 3) := by decide +kernel
theorem dX2_move_52 : decode cX2_move 52 = .ok (.bipush (-5), 2) := by decide +kernel
theorem dX2_move_54 : decode cX2_move 54 = .ok (.ireturn, 1) := by decide +kernel
theorem dX2_move_55 : decode cX2_move 55 = .ok (.aload 4, 2) := by decide +kernel
theorem dX2_move_57 : decode cX2_move 57 = .ok (.iload_n 2, 1) := by decide +kernel
theorem dX2_move_58 : decode cX2_move 58 = .ok (.iload_n 3, 1) := by decide +kernel
theorem dX2_move_59 : decode cX2_move 59 = .ok (.invokevirtual 62, 3) := by decide +kernel
theorem dX2_move_62 : decode cX2_move 62 = .ok (.aload 4, 2) := by decide +kernel
theorem dX2_move_64 : decode cX2_move 64 = .ok (.getfield 32, 3) := by decide +kernel
theorem dX2_move_67 : decode cX2_move 67 = .ok (.ireturn, 1) := by decide +kernel
set_option maxRecDepth 20000 in
theorem ggX2_back_X1_layerOf : GoodIn wsX2_back wsX1_layerOf := goodIn_r _ [6, 7, 8, 9, 10, 29] (by decide +kernel) (by decide +kernel)
set_option maxRecDepth 20000 in
theorem gX2_back_X1_layerOf : GoodIn wsX2_back (wsV RX2 24 RX1 yX1_layerOf wsX1_layerOf) := goodIn_app (goodIn_of _ (by decide +kernel)) ggX2_back_X1_layerOf
set_option maxRecDepth 20000 in
theorem ggX2_back_X0_reverse : GoodIn wsX2_back wsX0_reverse := goodIn_r _ [15, 16, 17, 18, 14, 19, 20, 21, 25, 26, 27, 28] (by decide +kernel) (by decide +kernel)
set_option maxRecDepth 20000 in
theorem gX2_back_X0_reverse : GoodIn wsX2_back (wsV RX2 66 RX0 yX0_reverse wsX0_reverse) := goodIn_app (goodIn_of _ (by decide +kernel)) ggX2_back_X0_reverse
theorem dX2_back_0 : decode cX2_back 0 = .ok (.aload_n 0, 1) := by decide +kernel
theorem dX2_back_1 : decode cX2_back 1 = .ok (.getfield 12, 3) := by decide +kernel
theorem dX2_back_4 : decode cX2_back 4 = .ok (.iload_n 1, 1) := by decide +kernel
theorem dX2_back_5 : decode cX2_back 5 = .ok (.invokevirtual 24, 3) := by decide +kernel
theorem dX2_back_8 : decode cX2_back 8 = .ok (.astore_n 2, 1) := by decide +kernel
theorem dX2_back_9 : decode cX2_back 9 = .ok (.aload_n 2, 1) := by decide +kernel
theorem dX2_back_10 : decode cX2_back 10 = .ok (.ifnonnull 5, 3) := by decide +kernel
theorem dX2_back_13 : decode cX2_back 13 = .ok (.iconst (-1), 1) := by decide +kernel
theorem dX2_back_14 : decode cX2_back 14 = .ok (.ireturn, 1) := by decide +kernel
theorem dX2_back_15 : decode cX2_back 15 = .ok (.aload_n 2, 1) := by decide +kernel
theorem dX2_back_16 : decode cX2_back 16 = .ok (.iconst 0, 1) := by decide +kernel
theorem dX2_back_17 : decode cX2_back 17 = .ok (.aload_n 2, 1) := by decide +kernel
theorem dX2_back_18 : decode cX2_back 18 = .ok (.getfield 32, 3) := by decide +kernel
theorem dX2_back_21 : decode cX2_back 21 = .ok (.invokevirtual 66, 3) := by decide +kernel
theorem dX2_back_24 : decode cX2_back 24 = .ok (.aload_n 2, 1) := by decide +kernel
theorem dX2_back_25 : decode cX2_back 25 = .ok (.getfield 32, 3) := by decide +kernel
theorem dX2_back_28 : decode cX2_back 28 = .ok (.ireturn, 1) := by decide +kernel
set_option maxRecDepth 20000 in
theorem ggX2_begin_X1_layerOf : GoodIn wsX2_begin wsX1_layerOf := goodIn_r _ [6, 7, 8, 9, 10, 38] (by decide +kernel) (by decide +kernel)
set_option maxRecDepth 20000 in
theorem gX2_begin_X1_layerOf : GoodIn wsX2_begin (wsV RX2 24 RX1 yX1_layerOf wsX1_layerOf) := goodIn_app (goodIn_of _ (by decide +kernel)) ggX2_begin_X1_layerOf
set_option maxRecDepth 20000 in
theorem ggX2_begin_X0_has : GoodIn wsX2_begin wsX0_has := goodIn_r _ [15, 16, 34, 35, 36, 37] (by decide +kernel) (by decide +kernel)
set_option maxRecDepth 20000 in
theorem gX2_begin_X0_has : GoodIn wsX2_begin (wsV RX2 41 RX0 yX0_has wsX0_has) := goodIn_app (goodIn_of _ (by decide +kernel)) ggX2_begin_X0_has
set_option maxRecDepth 20000 in
theorem ggX2_begin_X0_startAt : GoodIn wsX2_begin wsX0_startAt := goodIn_r _ [20, 16, 21, 22, 23, 14, 24, 25, 26, 27, 28, 29, 30, 34, 35, 36, 37] (by decide +kernel) (by decide +kernel)
set_option maxRecDepth 20000 in
theorem gX2_begin_X0_startAt : GoodIn wsX2_begin (wsV RX2 69 RX0 yX0_startAt wsX0_startAt) := goodIn_app (goodIn_of _ (by decide +kernel)) ggX2_begin_X0_startAt
theorem dX2_begin_0 : decode cX2_begin 0 = .ok (.aload_n 0, 1) := by decide +kernel
theorem dX2_begin_1 : decode cX2_begin 1 = .ok (.getfield 12, 3) := by decide +kernel
theorem dX2_begin_4 : decode cX2_begin 4 = .ok (.iload_n 1, 1) := by decide +kernel
theorem dX2_begin_5 : decode cX2_begin 5 = .ok (.invokevirtual 24, 3) := by decide +kernel
theorem dX2_begin_8 : decode cX2_begin 8 = .ok (.astore_n 3, 1) := by decide +kernel
theorem dX2_begin_9 : decode cX2_begin 9 = .ok (.aload_n 3, 1) := by decide +kernel
theorem dX2_begin_10 : decode cX2_begin 10 = .ok (.ifnull 11, 3) := by decide +kernel
theorem dX2_begin_13 : decode cX2_begin 13 = .ok (.aload_n 3, 1) := by decide +kernel
theorem dX2_begin_14 : decode cX2_begin 14 = .ok (.iload_n 2, 1) := by decide +kernel
theorem dX2_begin_15 : decode cX2_begin 15 = .ok (.invokevirtual 41, 3) := by decide +kernel
theorem dX2_begin_18 : decode cX2_begin 18 = .ok (.ifCond .ne 5, 3) := by decide +kernel
theorem dX2_begin_21 : decode cX2_begin 21 = .ok (.iconst (-1), 1) := by decide +kernel
theorem dX2_begin_22 : decode cX2_begin 22 = .ok (.ireturn, 1) := by decide +kernel
theorem dX2_begin_23 : decode cX2_begin 23 = .ok (.aload_n 3, 1) := by decide +kernel
theorem dX2_begin_24 : decode cX2_begin 24 = .ok (.iload_n 2, 1) := by decide +kernel
theorem dX2_begin_25 : decode cX2_begin 25 = .ok (.invokevirtual 69, 3) := by decide +kernel
theorem dX2_begin_28 : decode cX2_begin 28 = .ok (.aload_n 3, 1) := by decide +kernel
theorem dX2_begin_29 : decode cX2_begin 29 = .ok (.getfield 32, 3) := by decide +kernel
theorem dX2_begin_32 : decode cX2_begin 32 = .ok (.ireturn, 1) := by decide +kernel
set_option maxRecDepth 20000 in
theorem ggX2_at_X1_layerOf : GoodIn wsX2_at wsX1_layerOf := goodIn_r _ [6, 7, 8, 9, 10, 25] (by decide +kernel) (by decide +kernel)
set_option maxRecDepth 20000 in
theorem gX2_at_X1_layerOf : GoodIn wsX2_at (wsV RX2 24 RX1 yX1_layerOf wsX1_layerOf) := goodIn_app (goodIn_of _ (by decide +kernel)) ggX2_at_X1_layerOf
set_option maxRecDepth 20000 in
theorem ggX2_at_X0_has : GoodIn wsX2_at wsX0_has := goodIn_r _ [15, 16, 21, 22, 23, 24] (by decide +kernel) (by decide +kernel)
set_option maxRecDepth 20000 in
theorem gX2_at_X0_has : GoodIn wsX2_at (wsV RX2 41 RX0 yX0_has wsX0_has) := goodIn_app (goodIn_of _ (by decide +kernel)) ggX2_at_X0_has
set_option maxRecDepth 20000 in
theorem ggX2_at_X2_within : GoodIn wsX2_at wsX2_within := goodIn_r _ [10] (by decide +kernel) (by decide +kernel)
set_option maxRecDepth 20000 in
theorem gX2_at_X2_within : GoodIn wsX2_at (va_wsS RX2 51 yX2_within wsX2_within) := goodIn_app (goodIn_of _ (by decide +kernel)) ggX2_at_X2_within
theorem dX2_at_0 : decode cX2_at 0 = .ok (.aload_n 0, 1) := by decide +kernel
theorem dX2_at_1 : decode cX2_at 1 = .ok (.getfield 12, 3) := by decide +kernel
theorem dX2_at_4 : decode cX2_at 4 = .ok (.iload_n 1, 1) := by decide +kernel
theorem dX2_at_5 : decode cX2_at 5 = .ok (.invokevirtual 24, 3) := by decide +kernel
theorem dX2_at_8 : decode cX2_at 8 = .ok (.astore 4, 2) := by decide +kernel
theorem dX2_at_10 : decode cX2_at 10 = .ok (.aload 4, 2) := by decide +kernel
theorem dX2_at_12 : decode cX2_at 12 = .ok (.ifnull 12, 3) := by decide +kernel
theorem dX2_at_15 : decode cX2_at 15 = .ok (.aload 4, 2) := by decide +kernel
theorem dX2_at_17 : decode cX2_at 17 = .ok (.iload_n 2, 1) := by decide +kernel
theorem dX2_at_18 : decode cX2_at 18 = .ok (.invokevirtual 41, 3) := by decide +kernel
theorem dX2_at_21 : decode cX2_at 21 = .ok (.ifCond .ne 5, 3) := by decide +kernel
theorem dX2_at_24 : decode cX2_at 24 = .ok (.iconst (-1), 1) := by decide +kernel
theorem dX2_at_25 : decode cX2_at 25 = .ok (.ireturn, 1) := by decide +kernel
theorem dX2_at_26 : decode cX2_at 26 = .ok (.iload_n 3, 1) := by decide +kernel
theorem dX2_at_27 : decode cX2_at 27 = .ok (.iconst 0, 1) := by decide +kernel
theorem dX2_at_28 : decode cX2_at 28 = .ok (.iconst 1, 1) := by decide +kernel
theorem dX2_at_29 : decode cX2_at 29 = .ok (.invokestatic 51, 3) := by decide +kernel
theorem dX2_at_32 : decode cX2_at 32 = .ok (.ifCond .ne 6, 3) := by decide +kernel
theorem dX2_at_35 : decode cX2_at 35 = .ok (.bipush (-2), 2) := by decide +kernel
theorem dX2_at_37 : decode cX2_at 37 = .ok (.ireturn, 1) := by decide +kernel
theorem dX2_at_38 : decode cX2_at 38 = .ok (.iload_n 3, 1) := by decide +kernel
theorem dX2_at_39 : decode cX2_at 39 = .ok (.ifCond .ne 13, 3) := by decide +kernel
theorem dX2_at_42 : decode cX2_at 42 = .ok (.aload 4, 2) := by decide +kernel
theorem dX2_at_44 : decode cX2_at 44 = .ok (.getfield 44, 3) := by decide +kernel
theorem dX2_at_47 : decode cX2_at 47 = .ok (.iload_n 2, 1) := by decide +kernel
theorem dX2_at_48 : decode cX2_at 48 = .ok (.iaload, 1) := by decide +kernel
theorem dX2_at_49 : decode cX2_at 49 = .ok (.goto 10, 3) := by decide +kernel
theorem dX2_at_52 : decode cX2_at 52 = .ok (.aload 4, 2) := by decide +kernel
theorem dX2_at_54 : decode cX2_at 54 = .ok (.getfield 48, 3) := by decide +kernel
theorem dX2_at_57 : decode cX2_at 57 = .ok (.iload_n 2, 1) := by decide +kernel
theorem dX2_at_58 : decode cX2_at 58 = .ok (.iaload, 1) := by decide +kernel
theorem dX2_at_59 : decode cX2_at 59 = .ok (.ireturn, 1) := by decide +kernel
set_option maxRecDepth 20000 in
theorem ggX2_raw_X1_layerOf : GoodIn wsX2_raw wsX1_layerOf := goodIn_r _ [9, 10, 11, 12, 13, 55] (by decide +kernel) (by decide +kernel)
set_option maxRecDepth 20000 in
theorem gX2_raw_X1_layerOf : GoodIn wsX2_raw (wsV RX2 24 RX1 yX1_layerOf wsX1_layerOf) := goodIn_app (goodIn_of _ (by decide +kernel)) ggX2_raw_X1_layerOf
set_option maxRecDepth 20000 in
theorem ggX2_raw_X2_isDot : GoodIn wsX2_raw wsX2_isDot := goodIn_r _ [16, 17, 11, 12, 13] (by decide +kernel) (by decide +kernel)
set_option maxRecDepth 20000 in
theorem gX2_raw_X2_isDot : GoodIn wsX2_raw (va_wsS RX2 73 yX2_isDot wsX2_isDot) := goodIn_app (goodIn_of _ (by decide +kernel)) ggX2_raw_X2_isDot
set_option maxRecDepth 20000 in
theorem ggX2_raw_X2_within : GoodIn wsX2_raw wsX2_within := goodIn_r _ [13] (by decide +kernel) (by decide +kernel)
set_option maxRecDepth 20000 in
theorem gX2_raw_X2_within : GoodIn wsX2_raw (va_wsS RX2 51 yX2_within wsX2_within) := goodIn_app (goodIn_of _ (by decide +kernel)) ggX2_raw_X2_within
set_option maxRecDepth 20000 in
theorem ggX2_raw_X0_rawParts : GoodIn wsX2_raw wsX0_rawParts := goodIn_r _ [22, 23, 24, 25, 26, 27, 21, 28, 29, 30, 31, 32, 33, 34, 35, 36, 37, 38, 39, 40, 41, 42, 56, 57, 58, 59] (by decide +kernel) (by decide +kernel)
set_option maxRecDepth 20000 in
theorem gX2_raw_X0_rawParts : GoodIn wsX2_raw (wsV RX2 80 RX0 yX0_rawParts wsX0_rawParts) := goodIn_app (goodIn_of _ (by decide +kernel)) ggX2_raw_X0_rawParts
set_option maxRecDepth 20000 in
theorem ggX2_raw_X2_lowestTerms : GoodIn wsX2_raw wsX2_lowestTerms := goodIn_r _ [45, 46, 47, 31, 48, 49, 50, 12, 51] (by decide +kernel) (by decide +kernel)
set_option maxRecDepth 20000 in
theorem gX2_raw_X2_lowestTerms : GoodIn wsX2_raw (va_wsS RX2 86 yX2_lowestTerms wsX2_lowestTerms) := goodIn_app (goodIn_of _ (by decide +kernel)) ggX2_raw_X2_lowestTerms
theorem dX2_raw_0 : decode cX2_raw 0 = .ok (.aload_n 0, 1) := by decide +kernel
theorem dX2_raw_1 : decode cX2_raw 1 = .ok (.getfield 12, 3) := by decide +kernel
theorem dX2_raw_4 : decode cX2_raw 4 = .ok (.iload_n 1, 1) := by decide +kernel
theorem dX2_raw_5 : decode cX2_raw 5 = .ok (.invokevirtual 24, 3) := by decide +kernel
theorem dX2_raw_8 : decode cX2_raw 8 = .ok (.astore 4, 2) := by decide +kernel
theorem dX2_raw_10 : decode cX2_raw 10 = .ok (.aload 4, 2) := by decide +kernel
theorem dX2_raw_12 : decode cX2_raw 12 = .ok (.ifnull 10, 3) := by decide +kernel
theorem dX2_raw_15 : decode cX2_raw 15 = .ok (.iload_n 2, 1) := by decide +kernel
theorem dX2_raw_16 : decode cX2_raw 16 = .ok (.invokestatic 73, 3) := by decide +kernel
theorem dX2_raw_19 : decode cX2_raw 19 = .ok (.ifCond .ne 7, 3) := by decide +kernel
theorem dX2_raw_22 : decode cX2_raw 22 = .ok (.ldc2_w 76, 3) := by decide +kernel
theorem dX2_raw_25 : decode cX2_raw 25 = .ok (.lreturn, 1) := by decide +kernel
theorem dX2_raw_26 : decode cX2_raw 26 = .ok (.iload_n 3, 1) := by decide +kernel
theorem dX2_raw_27 : decode cX2_raw 27 = .ok (.iconst 0, 1) := by decide +kernel
theorem dX2_raw_28 : decode cX2_raw 28 = .ok (.iconst 1, 1) := by decide +kernel
theorem dX2_raw_29 : decode cX2_raw 29 = .ok (.invokestatic 51, 3) := by decide +kernel
theorem dX2_raw_32 : decode cX2_raw 32 = .ok (.ifCond .ne 7, 3) := by decide +kernel
theorem dX2_raw_35 : decode cX2_raw 35 = .ok (.ldc2_w 78, 3) := by decide +kernel
theorem dX2_raw_38 : decode cX2_raw 38 = .ok (.lreturn, 1) := by decide +kernel
theorem dX2_raw_39 : decode cX2_raw 39 = .ok (.aload 4, 2) := by decide +kernel
theorem dX2_raw_41 : decode cX2_raw 41 = .ok (.iload_n 2, 1) := by decide +kernel
theorem dX2_raw_42 : decode cX2_raw 42 = .ok (.iconst 0, 1) := by decide +kernel
theorem dX2_raw_43 : decode cX2_raw 43 = .ok (.iconst 0, 1) := by decide +kernel
theorem dX2_raw_44 : decode cX2_raw 44 = .ok (.invokevirtual 80, 3) := by decide +kernel
theorem dX2_raw_47 : decode cX2_raw 47 = .ok (.ldc2_w 84, 3) := by decide +kernel
theorem dX2_raw_50 : decode cX2_raw 50 = .ok (.iload_n 3, 1) := by decide +kernel
theorem dX2_raw_51 : decode cX2_raw 51 = .ok (.invokestatic 86, 3) := by decide +kernel
theorem dX2_raw_54 : decode cX2_raw 54 = .ok (.lreturn, 1) := by decide +kernel
set_option maxRecDepth 20000 in
theorem ggX2_cover_X1_layerOf : GoodIn wsX2_cover wsX1_layerOf := goodIn_r _ [9, 10, 11, 12, 13, 66] (by decide +kernel) (by decide +kernel)
set_option maxRecDepth 20000 in
theorem gX2_cover_X1_layerOf : GoodIn wsX2_cover (wsV RX2 24 RX1 yX1_layerOf wsX1_layerOf) := goodIn_app (goodIn_of _ (by decide +kernel)) ggX2_cover_X1_layerOf
set_option maxRecDepth 20000 in
theorem ggX2_cover_X2_isDot : GoodIn wsX2_cover wsX2_isDot := goodIn_r _ [16, 17, 11, 12, 13] (by decide +kernel) (by decide +kernel)
set_option maxRecDepth 20000 in
theorem gX2_cover_X2_isDot : GoodIn wsX2_cover (va_wsS RX2 73 yX2_isDot wsX2_isDot) := goodIn_app (goodIn_of _ (by decide +kernel)) ggX2_cover_X2_isDot
set_option maxRecDepth 20000 in
theorem ggX2_cover_X2_within : GoodIn wsX2_cover wsX2_within := goodIn_r _ [13] (by decide +kernel) (by decide +kernel)
set_option maxRecDepth 20000 in
theorem gX2_cover_X2_within : GoodIn wsX2_cover (va_wsS RX2 51 yX2_within wsX2_within) := goodIn_app (goodIn_of _ (by decide +kernel)) ggX2_cover_X2_within
set_option maxRecDepth 20000 in
theorem ggX2_cover_X0_coverParts : GoodIn wsX2_cover wsX0_coverParts := goodIn_r _ [22, 23, 24, 25, 26, 27, 28, 29, 30, 31, 32, 33, 34, 35, 21, 36, 37, 38, 39, 40, 41, 42, 43, 44, 45, 46, 47, 48, 49, 50, 51, 52, 53, 54, 55, 67, 68, 69, 70] (by decide +kernel) (by decide +kernel)
set_option maxRecDepth 20000 in
theorem gX2_cover_X0_coverParts : GoodIn wsX2_cover (wsV RX2 94 RX0 yX0_coverParts wsX0_coverParts) := goodIn_app (goodIn_of _ (by decide +kernel)) ggX2_cover_X0_coverParts
set_option maxRecDepth 20000 in
theorem ggX2_cover_X2_lowestTerms : GoodIn wsX2_cover wsX2_lowestTerms := goodIn_r _ [58, 59, 24, 25, 26, 60, 61, 12, 62] (by decide +kernel) (by decide +kernel)
set_option maxRecDepth 20000 in
theorem gX2_cover_X2_lowestTerms : GoodIn wsX2_cover (va_wsS RX2 86 yX2_lowestTerms wsX2_lowestTerms) := goodIn_app (goodIn_of _ (by decide +kernel)) ggX2_cover_X2_lowestTerms
theorem dX2_cover_0 : decode cX2_cover 0 = .ok (.aload_n 0, 1) := by decide +kernel
theorem dX2_cover_1 : decode cX2_cover 1 = .ok (.getfield 12, 3) := by decide +kernel
theorem dX2_cover_4 : decode cX2_cover 4 = .ok (.iload_n 1, 1) := by decide +kernel
theorem dX2_cover_5 : decode cX2_cover 5 = .ok (.invokevirtual 24, 3) := by decide +kernel
theorem dX2_cover_8 : decode cX2_cover 8 = .ok (.astore 4, 2) := by decide +kernel
theorem dX2_cover_10 : decode cX2_cover 10 = .ok (.aload 4, 2) := by decide +kernel
theorem dX2_cover_12 : decode cX2_cover 12 = .ok (.ifnull 10, 3) := by decide +kernel
theorem dX2_cover_15 : decode cX2_cover 15 = .ok (.iload_n 2, 1) := by decide +kernel
theorem dX2_cover_16 : decode cX2_cover 16 = .ok (.invokestatic 73, 3) := by decide +kernel
theorem dX2_cover_19 : decode cX2_cover 19 = .ok (.ifCond .ne 7, 3) := by decide +kernel
theorem dX2_cover_22 : decode cX2_cover 22 = .ok (.ldc2_w 90, 3) := by decide +kernel
theorem dX2_cover_25 : decode cX2_cover 25 = .ok (.lreturn, 1) := by decide +kernel
theorem dX2_cover_26 : decode cX2_cover 26 = .ok (.iload_n 3, 1) := by decide +kernel
theorem dX2_cover_27 : decode cX2_cover 27 = .ok (.iconst 0, 1) := by decide +kernel
theorem dX2_cover_28 : decode cX2_cover 28 = .ok (.iconst 1, 1) := by decide +kernel
theorem dX2_cover_29 : decode cX2_cover 29 = .ok (.invokestatic 51, 3) := by decide +kernel
theorem dX2_cover_32 : decode cX2_cover 32 = .ok (.ifCond .ne 7, 3) := by decide +kernel
theorem dX2_cover_35 : decode cX2_cover 35 = .ok (.ldc2_w 92, 3) := by decide +kernel
theorem dX2_cover_38 : decode cX2_cover 38 = .ok (.lreturn, 1) := by decide +kernel
theorem dX2_cover_39 : decode cX2_cover 39 = .ok (.aload 4, 2) := by decide +kernel
theorem dX2_cover_41 : decode cX2_cover 41 = .ok (.iload_n 2, 1) := by decide +kernel
theorem dX2_cover_42 : decode cX2_cover 42 = .ok (.iconst 0, 1) := by decide +kernel
theorem dX2_cover_43 : decode cX2_cover 43 = .ok (.iconst 0, 1) := by decide +kernel
theorem dX2_cover_44 : decode cX2_cover 44 = .ok (.invokevirtual 94, 3) := by decide +kernel
theorem dX2_cover_47 : decode cX2_cover 47 = .ok (.ldc2_w 84, 3) := by decide +kernel
theorem dX2_cover_50 : decode cX2_cover 50 = .ok (.iload_n 3, 1) := by decide +kernel
theorem dX2_cover_51 : decode cX2_cover 51 = .ok (.invokestatic 86, 3) := by decide +kernel
theorem dX2_cover_54 : decode cX2_cover 54 = .ok (.lreturn, 1) := by decide +kernel
set_option maxRecDepth 20000 in
theorem ggX2_together_X2_isDot : GoodIn wsX2_together wsX2_isDot := goodIn_r _ [8, 9, 10, 7, 11] (by decide +kernel) (by decide +kernel)
set_option maxRecDepth 20000 in
theorem gX2_together_X2_isDot : GoodIn wsX2_together (va_wsS RX2 73 yX2_isDot wsX2_isDot) := goodIn_app (goodIn_of _ (by decide +kernel)) ggX2_together_X2_isDot
set_option maxRecDepth 20000 in
theorem ggX2_together_X2_within : GoodIn wsX2_together wsX2_within := goodIn_r _ [11] (by decide +kernel) (by decide +kernel)
set_option maxRecDepth 20000 in
theorem gX2_together_X2_within : GoodIn wsX2_together (va_wsS RX2 51 yX2_within wsX2_within) := goodIn_app (goodIn_of _ (by decide +kernel)) ggX2_together_X2_within
set_option maxRecDepth 20000 in
theorem ggX2_together_X1_togetherParts : GoodIn wsX2_together wsX1_togetherParts := goodIn_r _ [16, 17, 18, 19, 20, 21, 22, 23, 24, 25, 26, 27, 28, 29, 30, 31, 32, 33, 34, 35, 36, 37, 38, 39, 40, 41, 42, 43, 44, 45, 46, 47, 48, 49, 50, 51, 52, 53, 54, 55, 56, 57, 68, 69, 70, 71, 72] (by decide +kernel) (by decide +kernel)
set_option maxRecDepth 20000 in
theorem gX2_together_X1_togetherParts : GoodIn wsX2_together (wsV RX2 97 RX1 yX1_togetherParts wsX1_togetherParts) := goodIn_app (goodIn_of _ (by decide +kernel)) ggX2_together_X1_togetherParts
set_option maxRecDepth 20000 in
theorem ggX2_together_X2_lowestTerms : GoodIn wsX2_together wsX2_lowestTerms := goodIn_r _ [60, 61, 26, 27, 28, 62, 63, 7, 64] (by decide +kernel) (by decide +kernel)
set_option maxRecDepth 20000 in
theorem gX2_together_X2_lowestTerms : GoodIn wsX2_together (va_wsS RX2 86 yX2_lowestTerms wsX2_lowestTerms) := goodIn_app (goodIn_of _ (by decide +kernel)) ggX2_together_X2_lowestTerms
theorem dX2_together_0 : decode cX2_together 0 = .ok (.iload_n 1, 1) := by decide +kernel
theorem dX2_together_1 : decode cX2_together 1 = .ok (.invokestatic 73, 3) := by decide +kernel
theorem dX2_together_4 : decode cX2_together 4 = .ok (.ifCond .ne 7, 3) := by decide +kernel
theorem dX2_together_7 : decode cX2_together 7 = .ok (.ldc2_w 90, 3) := by decide +kernel
theorem dX2_together_10 : decode cX2_together 10 = .ok (.lreturn, 1) := by decide +kernel
theorem dX2_together_11 : decode cX2_together 11 = .ok (.iload_n 2, 1) := by decide +kernel
theorem dX2_together_12 : decode cX2_together 12 = .ok (.iconst 0, 1) := by decide +kernel
theorem dX2_together_13 : decode cX2_together 13 = .ok (.iconst 1, 1) := by decide +kernel
theorem dX2_together_14 : decode cX2_together 14 = .ok (.invokestatic 51, 3) := by decide +kernel
theorem dX2_together_17 : decode cX2_together 17 = .ok (.ifCond .ne 7, 3) := by decide +kernel
theorem dX2_together_20 : decode cX2_together 20 = .ok (.ldc2_w 92, 3) := by decide +kernel
theorem dX2_together_23 : decode cX2_together 23 = .ok (.lreturn, 1) := by decide +kernel
theorem dX2_together_24 : decode cX2_together 24 = .ok (.aload_n 0, 1) := by decide +kernel
theorem dX2_together_25 : decode cX2_together 25 = .ok (.getfield 12, 3) := by decide +kernel
theorem dX2_together_28 : decode cX2_together 28 = .ok (.iload_n 1, 1) := by decide +kernel
theorem dX2_together_29 : decode cX2_together 29 = .ok (.invokevirtual 97, 3) := by decide +kernel
theorem dX2_together_32 : decode cX2_together 32 = .ok (.ldc2_w 101, 3) := by decide +kernel
theorem dX2_together_35 : decode cX2_together 35 = .ok (.iload_n 2, 1) := by decide +kernel
theorem dX2_together_36 : decode cX2_together 36 = .ok (.invokestatic 86, 3) := by decide +kernel
theorem dX2_together_39 : decode cX2_together 39 = .ok (.lreturn, 1) := by decide +kernel
set_option maxRecDepth 20000 in
theorem ggX2_area_X1_layerOf : GoodIn wsX2_area wsX1_layerOf := goodIn_r _ [9, 10, 11, 12, 13, 52] (by decide +kernel) (by decide +kernel)
set_option maxRecDepth 20000 in
theorem gX2_area_X1_layerOf : GoodIn wsX2_area (wsV RX2 24 RX1 yX1_layerOf wsX1_layerOf) := goodIn_app (goodIn_of _ (by decide +kernel)) ggX2_area_X1_layerOf
set_option maxRecDepth 20000 in
theorem ggX2_area_X2_within : GoodIn wsX2_area wsX2_within := goodIn_r _ [13] (by decide +kernel) (by decide +kernel)
set_option maxRecDepth 20000 in
theorem gX2_area_X2_within : GoodIn wsX2_area (va_wsS RX2 51 yX2_within wsX2_within) := goodIn_app (goodIn_of _ (by decide +kernel)) ggX2_area_X2_within
set_option maxRecDepth 20000 in
theorem ggX2_area_X0_rawParts : GoodIn wsX2_area wsX0_rawParts := goodIn_r _ [19, 20, 21, 22, 23, 24, 18, 25, 26, 27, 28, 29, 30, 31, 32, 33, 34, 35, 36, 37, 38, 39, 53, 54, 55, 56] (by decide +kernel) (by decide +kernel)
set_option maxRecDepth 20000 in
theorem gX2_area_X0_rawParts : GoodIn wsX2_area (wsV RX2 80 RX0 yX0_rawParts wsX0_rawParts) := goodIn_app (goodIn_of _ (by decide +kernel)) ggX2_area_X0_rawParts
set_option maxRecDepth 20000 in
theorem ggX2_area_X2_lowestTerms : GoodIn wsX2_area wsX2_lowestTerms := goodIn_r _ [42, 43, 44, 28, 45, 46, 47, 12, 48] (by decide +kernel) (by decide +kernel)
set_option maxRecDepth 20000 in
theorem gX2_area_X2_lowestTerms : GoodIn wsX2_area (va_wsS RX2 86 yX2_lowestTerms wsX2_lowestTerms) := goodIn_app (goodIn_of _ (by decide +kernel)) ggX2_area_X2_lowestTerms
theorem dX2_area_0 : decode cX2_area 0 = .ok (.aload_n 0, 1) := by decide +kernel
theorem dX2_area_1 : decode cX2_area 1 = .ok (.getfield 12, 3) := by decide +kernel
theorem dX2_area_4 : decode cX2_area 4 = .ok (.iload_n 1, 1) := by decide +kernel
theorem dX2_area_5 : decode cX2_area 5 = .ok (.invokevirtual 24, 3) := by decide +kernel
theorem dX2_area_8 : decode cX2_area 8 = .ok (.astore_n 3, 1) := by decide +kernel
theorem dX2_area_9 : decode cX2_area 9 = .ok (.aload_n 3, 1) := by decide +kernel
theorem dX2_area_10 : decode cX2_area 10 = .ok (.ifnonnull 7, 3) := by decide +kernel
theorem dX2_area_13 : decode cX2_area 13 = .ok (.ldc2_w 76, 3) := by decide +kernel
theorem dX2_area_16 : decode cX2_area 16 = .ok (.lreturn, 1) := by decide +kernel
theorem dX2_area_17 : decode cX2_area 17 = .ok (.iload_n 2, 1) := by decide +kernel
theorem dX2_area_18 : decode cX2_area 18 = .ok (.iconst 0, 1) := by decide +kernel
theorem dX2_area_19 : decode cX2_area 19 = .ok (.iconst 1, 1) := by decide +kernel
theorem dX2_area_20 : decode cX2_area 20 = .ok (.invokestatic 51, 3) := by decide +kernel
theorem dX2_area_23 : decode cX2_area 23 = .ok (.ifCond .ne 7, 3) := by decide +kernel
theorem dX2_area_26 : decode cX2_area 26 = .ok (.ldc2_w 78, 3) := by decide +kernel
theorem dX2_area_29 : decode cX2_area 29 = .ok (.lreturn, 1) := by decide +kernel
theorem dX2_area_30 : decode cX2_area 30 = .ok (.lconst 0, 1) := by decide +kernel
theorem dX2_area_31 : decode cX2_area 31 = .ok (.lstore 4, 2) := by decide +kernel
theorem dX2_area_33 : decode cX2_area 33 = .ok (.iconst 0, 1) := by decide +kernel
theorem dX2_area_34 : decode cX2_area 34 = .ok (.istore 6, 2) := by decide +kernel
theorem dX2_area_36 : decode cX2_area 36 = .ok (.iload 6, 2) := by decide +kernel
theorem dX2_area_38 : decode cX2_area 38 = .ok (.bipush 16, 2) := by decide +kernel
theorem dX2_area_40 : decode cX2_area 40 = .ok (.if_icmp .ge 22, 3) := by decide +kernel
theorem dX2_area_43 : decode cX2_area 43 = .ok (.lload 4, 2) := by decide +kernel
theorem dX2_area_45 : decode cX2_area 45 = .ok (.aload_n 3, 1) := by decide +kernel
theorem dX2_area_46 : decode cX2_area 46 = .ok (.iload 6, 2) := by decide +kernel
theorem dX2_area_48 : decode cX2_area 48 = .ok (.iconst 0, 1) := by decide +kernel
theorem dX2_area_49 : decode cX2_area 49 = .ok (.iconst 0, 1) := by decide +kernel
theorem dX2_area_50 : decode cX2_area 50 = .ok (.invokevirtual 80, 3) := by decide +kernel
theorem dX2_area_53 : decode cX2_area 53 = .ok (.ladd, 1) := by decide +kernel
theorem dX2_area_54 : decode cX2_area 54 = .ok (.lstore 4, 2) := by decide +kernel
theorem dX2_area_56 : decode cX2_area 56 = .ok (.iinc 6 1, 3) := by decide +kernel
theorem dX2_area_59 : decode cX2_area 59 = .ok (.goto (-23), 3) := by decide +kernel
theorem dX2_area_62 : decode cX2_area 62 = .ok (.lload 4, 2) := by decide +kernel
theorem dX2_area_64 : decode cX2_area 64 = .ok (.ldc2_w 103, 3) := by decide +kernel
theorem dX2_area_67 : decode cX2_area 67 = .ok (.iload_n 2, 1) := by decide +kernel
theorem dX2_area_68 : decode cX2_area 68 = .ok (.invokestatic 86, 3) := by decide +kernel
theorem dX2_area_71 : decode cX2_area 71 = .ok (.lreturn, 1) := by decide +kernel
set_option maxRecDepth 20000 in
theorem ggX2_enough_X1_layerOf : GoodIn wsX2_enough wsX1_layerOf := goodIn_r _ [7, 8, 9, 10, 11, 54] (by decide +kernel) (by decide +kernel)
set_option maxRecDepth 20000 in
theorem gX2_enough_X1_layerOf : GoodIn wsX2_enough (wsV RX2 24 RX1 yX1_layerOf wsX1_layerOf) := goodIn_app (goodIn_of _ (by decide +kernel)) ggX2_enough_X1_layerOf
set_option maxRecDepth 20000 in
theorem ggX2_enough_X2_within : GoodIn wsX2_enough wsX2_within := goodIn_r _ [11] (by decide +kernel) (by decide +kernel)
set_option maxRecDepth 20000 in
theorem gX2_enough_X2_within : GoodIn wsX2_enough (va_wsS RX2 51 yX2_within wsX2_within) := goodIn_app (goodIn_of _ (by decide +kernel)) ggX2_enough_X2_within
set_option maxRecDepth 20000 in
theorem ggX2_enough_X0_coverParts : GoodIn wsX2_enough wsX0_coverParts := goodIn_r _ [17, 18, 19, 20, 21, 22, 23, 24, 25, 26, 27, 28, 29, 30, 16, 31, 32, 33, 34, 35, 36, 37, 38, 39, 40, 41, 42, 43, 44, 45, 46, 47, 48, 49, 50, 55, 56, 57, 58] (by decide +kernel) (by decide +kernel)
set_option maxRecDepth 20000 in
theorem gX2_enough_X0_coverParts : GoodIn wsX2_enough (wsV RX2 94 RX0 yX0_coverParts wsX0_coverParts) := goodIn_app (goodIn_of _ (by decide +kernel)) ggX2_enough_X0_coverParts
theorem dX2_enough_0 : decode cX2_enough 0 = .ok (.aload_n 0, 1) := by decide +kernel
theorem dX2_enough_1 : decode cX2_enough 1 = .ok (.getfield 12, 3) := by decide +kernel
theorem dX2_enough_4 : decode cX2_enough 4 = .ok (.iload_n 1, 1) := by decide +kernel
theorem dX2_enough_5 : decode cX2_enough 5 = .ok (.invokevirtual 24, 3) := by decide +kernel
theorem dX2_enough_8 : decode cX2_enough 8 = .ok (.astore 4, 2) := by decide +kernel
theorem dX2_enough_10 : decode cX2_enough 10 = .ok (.aload 4, 2) := by decide +kernel
theorem dX2_enough_12 : decode cX2_enough 12 = .ok (.ifnonnull 5, 3) := by decide +kernel
theorem dX2_enough_15 : decode cX2_enough 15 = .ok (.iconst (-1), 1) := by decide +kernel
theorem dX2_enough_16 : decode cX2_enough 16 = .ok (.ireturn, 1) := by decide +kernel
theorem dX2_enough_17 : decode cX2_enough 17 = .ok (.iload_n 3, 1) := by decide +kernel
theorem dX2_enough_18 : decode cX2_enough 18 = .ok (.iconst 1, 1) := by decide +kernel
theorem dX2_enough_19 : decode cX2_enough 19 = .ok (.bipush 99, 2) := by decide +kernel
theorem dX2_enough_21 : decode cX2_enough 21 = .ok (.invokestatic 51, 3) := by decide +kernel
theorem dX2_enough_24 : decode cX2_enough 24 = .ok (.ifCond .eq 12, 3) := by decide +kernel
theorem dX2_enough_27 : decode cX2_enough 27 = .ok (.iload_n 2, 1) := by decide +kernel
theorem dX2_enough_28 : decode cX2_enough 28 = .ok (.iconst 0, 1) := by decide +kernel
theorem dX2_enough_29 : decode cX2_enough 29 = .ok (.iload_n 3, 1) := by decide +kernel
theorem dX2_enough_30 : decode cX2_enough 30 = .ok (.invokestatic 51, 3) := by decide +kernel
theorem dX2_enough_33 : decode cX2_enough 33 = .ok (.ifCond .ne 6, 3) := by decide +kernel
theorem dX2_enough_36 : decode cX2_enough 36 = .ok (.bipush (-2), 2) := by decide +kernel
theorem dX2_enough_38 : decode cX2_enough 38 = .ok (.ireturn, 1) := by decide +kernel
theorem dX2_enough_39 : decode cX2_enough 39 = .ok (.iconst 0, 1) := by decide +kernel
theorem dX2_enough_40 : decode cX2_enough 40 = .ok (.istore 5, 2) := by decide +kernel
theorem dX2_enough_42 : decode cX2_enough 42 = .ok (.iconst 0, 1) := by decide +kernel
theorem dX2_enough_43 : decode cX2_enough 43 = .ok (.istore 6, 2) := by decide +kernel
theorem dX2_enough_45 : decode cX2_enough 45 = .ok (.iload 6, 2) := by decide +kernel
theorem dX2_enough_47 : decode cX2_enough 47 = .ok (.bipush 16, 2) := by decide +kernel
theorem dX2_enough_49 : decode cX2_enough 49 = .ok (.if_icmp .ge 40, 3) := by decide +kernel
theorem dX2_enough_52 : decode cX2_enough 52 = .ok (.aload 4, 2) := by decide +kernel
theorem dX2_enough_54 : decode cX2_enough 54 = .ok (.iload 6, 2) := by decide +kernel
theorem dX2_enough_56 : decode cX2_enough 56 = .ok (.iconst 0, 1) := by decide +kernel
theorem dX2_enough_57 : decode cX2_enough 57 = .ok (.iconst 0, 1) := by decide +kernel
theorem dX2_enough_58 : decode cX2_enough 58 = .ok (.invokevirtual 94, 3) := by decide +kernel
theorem dX2_enough_61 : decode cX2_enough 61 = .ok (.iload_n 3, 1) := by decide +kernel
theorem dX2_enough_62 : decode cX2_enough 62 = .ok (.i2l, 1) := by decide +kernel
theorem dX2_enough_63 : decode cX2_enough 63 = .ok (.lmul, 1) := by decide +kernel
theorem dX2_enough_64 : decode cX2_enough 64 = .ok (.ldc2_w 84, 3) := by decide +kernel
theorem dX2_enough_67 : decode cX2_enough 67 = .ok (.iload_n 2, 1) := by decide +kernel
theorem dX2_enough_68 : decode cX2_enough 68 = .ok (.i2l, 1) := by decide +kernel
theorem dX2_enough_69 : decode cX2_enough 69 = .ok (.lmul, 1) := by decide +kernel
theorem dX2_enough_70 : decode cX2_enough 70 = .ok (.lcmp, 1) := by decide +kernel
theorem dX2_enough_71 : decode cX2_enough 71 = .ok (.ifCond .lt 12, 3) := by decide +kernel
theorem dX2_enough_74 : decode cX2_enough 74 = .ok (.iload 5, 2) := by decide +kernel
theorem dX2_enough_76 : decode cX2_enough 76 = .ok (.iconst 1, 1) := by decide +kernel
theorem dX2_enough_77 : decode cX2_enough 77 = .ok (.iload 6, 2) := by decide +kernel
theorem dX2_enough_79 : decode cX2_enough 79 = .ok (.ishl, 1) := by decide +kernel
theorem dX2_enough_80 : decode cX2_enough 80 = .ok (.ior, 1) := by decide +kernel
theorem dX2_enough_81 : decode cX2_enough 81 = .ok (.istore 5, 2) := by decide +kernel
theorem dX2_enough_83 : decode cX2_enough 83 = .ok (.iinc 6 1, 3) := by decide +kernel
theorem dX2_enough_86 : decode cX2_enough 86 = .ok (.goto (-41), 3) := by decide +kernel
theorem dX2_enough_89 : decode cX2_enough 89 = .ok (.iload 5, 2) := by decide +kernel
theorem dX2_enough_91 : decode cX2_enough 91 = .ok (.ireturn, 1) := by decide +kernel
set_option maxRecDepth 20000 in
theorem ggX2_field_X1_mostCoveredDot : GoodIn wsX2_field wsX1_mostCoveredDot := goodIn_r _ [7, 8, 9, 10, 6, 11, 12, 13, 14, 15, 16, 17, 18, 19, 20, 21, 22, 23, 24, 25, 26, 27, 28, 29, 30, 31, 32, 33, 34, 35, 36, 37, 38, 39, 40, 41, 42, 43, 44, 45, 46, 47, 48, 49, 50, 51, 52, 64, 65, 66, 67, 68] (by decide +kernel) (by decide +kernel)
set_option maxRecDepth 20000 in
theorem gX2_field_X1_mostCoveredDot : GoodIn wsX2_field (wsV RX2 105 RX1 yX1_mostCoveredDot wsX1_mostCoveredDot) := goodIn_app (goodIn_of _ (by decide +kernel)) ggX2_field_X1_mostCoveredDot
set_option maxRecDepth 20000 in
theorem ggX2_field_X1_leastCoveredDot : GoodIn wsX2_field wsX1_leastCoveredDot := goodIn_r _ [56, 8, 9, 10, 6, 11, 12, 13, 14, 15, 16, 17, 18, 19, 20, 21, 22, 23, 24, 25, 26, 27, 28, 29, 30, 31, 32, 33, 34, 35, 36, 37, 38, 39, 40, 41, 42, 43, 44, 45, 46, 47, 48, 49, 50, 51, 52, 64, 65, 66, 67, 68] (by decide +kernel) (by decide +kernel)
set_option maxRecDepth 20000 in
theorem gX2_field_X1_leastCoveredDot : GoodIn wsX2_field (wsV RX2 109 RX1 yX1_leastCoveredDot wsX1_leastCoveredDot) := goodIn_app (goodIn_of _ (by decide +kernel)) ggX2_field_X1_leastCoveredDot
set_option maxRecDepth 20000 in
theorem ggX2_field_X1_dotsWithTogether : GoodIn wsX2_field wsX1_dotsWithTogether := goodIn_r _ [60, 8, 9, 10, 6, 11, 12, 13, 14, 15, 16, 17, 18, 19, 20, 21, 22, 23, 24, 25, 26, 27, 28, 29, 30, 31, 32, 33, 34, 35, 36, 37, 38, 39, 40, 41, 42, 43, 44, 45, 46, 47, 48, 49, 50, 51, 52, 64, 65, 66, 67, 68] (by decide +kernel) (by decide +kernel)
