theorem dX8_taken_1 : decode cX8_taken 1 = .ok (.i2l, 1) := by decide +kernel
theorem dX8_taken_2 : decode cX8_taken 2 = .ok (.lconst 0, 1) := by decide +kernel
theorem dX8_taken_3 : decode cX8_taken 3 = .ok (.ldc2_w 111, 3) := by decide +kernel
theorem dX8_taken_6 : decode cX8_taken 6 = .ok (.invokestatic 30, 3) := by decide +kernel
theorem dX8_taken_9 : decode cX8_taken 9 = .ok (.ifCond .eq 15, 3) := by decide +kernel
theorem dX8_taken_12 : decode cX8_taken 12 = .ok (.iload_n 2, 1) := by decide +kernel
theorem dX8_taken_13 : decode cX8_taken 13 = .ok (.i2l, 1) := by decide +kernel
theorem dX8_taken_14 : decode cX8_taken 14 = .ok (.lconst 1, 1) := by decide +kernel
theorem dX8_taken_15 : decode cX8_taken 15 = .ok (.ldc2_w 73, 3) := by decide +kernel
theorem dX8_taken_18 : decode cX8_taken 18 = .ok (.invokestatic 30, 3) := by decide +kernel
theorem dX8_taken_21 : decode cX8_taken 21 = .ok (.ifCond .ne 6, 3) := by decide +kernel
theorem dX8_taken_24 : decode cX8_taken 24 = .ok (.ldc 61, 2) := by decide +kernel
theorem dX8_taken_26 : decode cX8_taken 26 = .ok (.ireturn, 1) := by decide +kernel
theorem dX8_taken_27 : decode cX8_taken 27 = .ok (.iconst 0, 1) := by decide +kernel
theorem dX8_taken_28 : decode cX8_taken 28 = .ok (.istore_n 3, 1) := by decide +kernel
theorem dX8_taken_29 : decode cX8_taken 29 = .ok (.iconst 0, 1) := by decide +kernel
theorem dX8_taken_30 : decode cX8_taken 30 = .ok (.istore 4, 2) := by decide +kernel
theorem dX8_taken_32 : decode cX8_taken 32 = .ok (.iload 4, 2) := by decide +kernel
theorem dX8_taken_34 : decode cX8_taken 34 = .ok (.aload_n 0, 1) := by decide +kernel
theorem dX8_taken_35 : decode cX8_taken 35 = .ok (.getfield 7, 3) := by decide +kernel
theorem dX8_taken_38 : decode cX8_taken 38 = .ok (.bipush 10, 2) := by decide +kernel
theorem dX8_taken_40 : decode cX8_taken 40 = .ok (.iaload, 1) := by decide +kernel
theorem dX8_taken_41 : decode cX8_taken 41 = .ok (.if_icmp .ge 119, 3) := by decide +kernel
theorem dX8_taken_44 : decode cX8_taken 44 = .ok (.iconst 0, 1) := by decide +kernel
theorem dX8_taken_45 : decode cX8_taken 45 = .ok (.istore 5, 2) := by decide +kernel
theorem dX8_taken_47 : decode cX8_taken 47 = .ok (.iload 5, 2) := by decide +kernel
theorem dX8_taken_49 : decode cX8_taken 49 = .ok (.aload_n 0, 1) := by decide +kernel
theorem dX8_taken_50 : decode cX8_taken 50 = .ok (.iload 4, 2) := by decide +kernel
theorem dX8_taken_52 : decode cX8_taken 52 = .ok (.iconst 4, 1) := by decide +kernel
theorem dX8_taken_53 : decode cX8_taken 53 = .ok (.invokevirtual 42, 3) := by decide +kernel
theorem dX8_taken_56 : decode cX8_taken 56 = .ok (.if_icmp .ge 98, 3) := by decide +kernel
theorem dX8_taken_59 : decode cX8_taken 59 = .ok (.aload_n 0, 1) := by decide +kernel
theorem dX8_taken_60 : decode cX8_taken 60 = .ok (.iload 4, 2) := by decide +kernel
theorem dX8_taken_62 : decode cX8_taken 62 = .ok (.bipush 12, 2) := by decide +kernel
theorem dX8_taken_64 : decode cX8_taken 64 = .ok (.iload 5, 2) := by decide +kernel
theorem dX8_taken_66 : decode cX8_taken 66 = .ok (.iadd, 1) := by decide +kernel
theorem dX8_taken_67 : decode cX8_taken 67 = .ok (.invokevirtual 42, 3) := by decide +kernel
theorem dX8_taken_70 : decode cX8_taken 70 = .ok (.iconst 2, 1) := by decide +kernel
theorem dX8_taken_71 : decode cX8_taken 71 = .ok (.if_icmp .eq 35, 3) := by decide +kernel
theorem dX8_taken_74 : decode cX8_taken 74 = .ok (.aload_n 0, 1) := by decide +kernel
theorem dX8_taken_75 : decode cX8_taken 75 = .ok (.bipush 20, 2) := by decide +kernel
theorem dX8_taken_77 : decode cX8_taken 77 = .ok (.iload 4, 2) := by decide +kernel
theorem dX8_taken_79 : decode cX8_taken 79 = .ok (.imul, 1) := by decide +kernel
theorem dX8_taken_80 : decode cX8_taken 80 = .ok (.iload 5, 2) := by decide +kernel
theorem dX8_taken_82 : decode cX8_taken 82 = .ok (.iadd, 1) := by decide +kernel
theorem dX8_taken_83 : decode cX8_taken 83 = .ok (.invokevirtual 97, 3) := by decide +kernel
theorem dX8_taken_86 : decode cX8_taken 86 = .ok (.iload_n 1, 1) := by decide +kernel
theorem dX8_taken_87 : decode cX8_taken 87 = .ok (.if_icmp .ne 19, 3) := by decide +kernel
theorem dX8_taken_90 : decode cX8_taken 90 = .ok (.aload_n 0, 1) := by decide +kernel
theorem dX8_taken_91 : decode cX8_taken 91 = .ok (.iload 4, 2) := by decide +kernel
theorem dX8_taken_93 : decode cX8_taken 93 = .ok (.iconst 1, 1) := by decide +kernel
theorem dX8_taken_94 : decode cX8_taken 94 = .ok (.invokevirtual 42, 3) := by decide +kernel
theorem dX8_taken_97 : decode cX8_taken 97 = .ok (.iload_n 2, 1) := by decide +kernel
theorem dX8_taken_98 : decode cX8_taken 98 = .ok (.iand, 1) := by decide +kernel
theorem dX8_taken_99 : decode cX8_taken 99 = .ok (.ifCond .eq 7, 3) := by decide +kernel
theorem dX8_taken_102 : decode cX8_taken 102 = .ok (.iconst 1, 1) := by decide +kernel
theorem dX8_taken_103 : decode cX8_taken 103 = .ok (.goto 4, 3) := by decide +kernel
theorem dX8_taken_106 : decode cX8_taken 106 = .ok (.iconst 0, 1) := by decide +kernel
theorem dX8_taken_107 : decode cX8_taken 107 = .ok (.istore 6, 2) := by decide +kernel
theorem dX8_taken_109 : decode cX8_taken 109 = .ok (.aload_n 0, 1) := by decide +kernel
theorem dX8_taken_110 : decode cX8_taken 110 = .ok (.iload 4, 2) := by decide +kernel
theorem dX8_taken_112 : decode cX8_taken 112 = .ok (.iconst 2, 1) := by decide +kernel
theorem dX8_taken_113 : decode cX8_taken 113 = .ok (.invokevirtual 42, 3) := by decide +kernel
theorem dX8_taken_116 : decode cX8_taken 116 = .ok (.istore 7, 2) := by decide +kernel
theorem dX8_taken_118 : decode cX8_taken 118 = .ok (.iload 7, 2) := by decide +kernel
theorem dX8_taken_120 : decode cX8_taken 120 = .ok (.aload_n 0, 1) := by decide +kernel
theorem dX8_taken_121 : decode cX8_taken 121 = .ok (.iload 4, 2) := by decide +kernel
theorem dX8_taken_123 : decode cX8_taken 123 = .ok (.iconst 3, 1) := by decide +kernel
theorem dX8_taken_124 : decode cX8_taken 124 = .ok (.invokevirtual 42, 3) := by decide +kernel
theorem dX8_taken_127 : decode cX8_taken 127 = .ok (.if_icmp .ge 21, 3) := by decide +kernel
theorem dX8_taken_130 : decode cX8_taken 130 = .ok (.iload 6, 2) := by decide +kernel
theorem dX8_taken_132 : decode cX8_taken 132 = .ok (.ifCond .eq 16, 3) := by decide +kernel
theorem dX8_taken_135 : decode cX8_taken 135 = .ok (.iload_n 3, 1) := by decide +kernel
theorem dX8_taken_136 : decode cX8_taken 136 = .ok (.iconst 1, 1) := by decide +kernel
theorem dX8_taken_137 : decode cX8_taken 137 = .ok (.iload 7, 2) := by decide +kernel
theorem dX8_taken_139 : decode cX8_taken 139 = .ok (.ishl, 1) := by decide +kernel
theorem dX8_taken_140 : decode cX8_taken 140 = .ok (.ior, 1) := by decide +kernel
theorem dX8_taken_141 : decode cX8_taken 141 = .ok (.istore_n 3, 1) := by decide +kernel
theorem dX8_taken_142 : decode cX8_taken 142 = .ok (.iinc 7 1, 3) := by decide +kernel
theorem dX8_taken_145 : decode cX8_taken 145 = .ok (.goto (-27), 3) := by decide +kernel
theorem dX8_taken_148 : decode cX8_taken 148 = .ok (.iinc 5 1, 3) := by decide +kernel
theorem dX8_taken_151 : decode cX8_taken 151 = .ok (.goto (-104), 3) := by decide +kernel
theorem dX8_taken_154 : decode cX8_taken 154 = .ok (.iinc 4 1, 3) := by decide +kernel
theorem dX8_taken_157 : decode cX8_taken 157 = .ok (.goto (-125), 3) := by decide +kernel
theorem dX8_taken_160 : decode cX8_taken 160 = .ok (.iload_n 3, 1) := by decide +kernel
theorem dX8_taken_161 : decode cX8_taken 161 = .ok (.ireturn, 1) := by decide +kernel
set_option maxRecDepth 20000 in
theorem ggX8_firstFree_X8_isHirer : GoodIn wsX8_firstFree wsX8_isHirer := goodIn_r _ [11, 5, 12, 13, 10, 14, 38, 39, 40, 41, 42, 43, 44, 45, 46, 47, 48, 49, 50, 51, 52, 53, 54, 55] (by decide +kernel) (by decide +kernel)
set_option maxRecDepth 20000 in
theorem gX8_firstFree_X8_isHirer : GoodIn wsX8_firstFree (wsV RX8 56 RX8 yX8_isHirer wsX8_isHirer) := goodIn_app (goodIn_of _ (by decide +kernel)) ggX8_firstFree_X8_isHirer
set_option maxRecDepth 20000 in
theorem ggX8_firstFree_X8_in : GoodIn wsX8_firstFree wsX8_in := goodIn_r _ [14] (by decide +kernel) (by decide +kernel)
set_option maxRecDepth 20000 in
theorem gX8_firstFree_X8_in : GoodIn wsX8_firstFree (va_wsS RX8 30 yX8_in wsX8_in) := goodIn_app (goodIn_of _ (by decide +kernel)) ggX8_firstFree_X8_in
set_option maxRecDepth 20000 in
theorem ggX8_firstFree_X8_clashOn : GoodIn wsX8_firstFree wsX8_clashOn := goodIn_r _ [18, 5, 19, 20, 21, 10, 22, 23, 24, 25, 26, 27, 28, 29, 30, 31, 32, 33, 34, 35, 36, 37, 38, 39, 40, 41, 42, 43, 44, 45, 46, 47, 48, 49, 50, 51, 52, 53, 54, 55] (by decide +kernel) (by decide +kernel)
set_option maxRecDepth 20000 in
theorem gX8_firstFree_X8_clashOn : GoodIn wsX8_firstFree (wsV RX8 104 RX8 yX8_clashOn wsX8_clashOn) := goodIn_app (goodIn_of _ (by decide +kernel)) ggX8_firstFree_X8_clashOn
theorem dX8_firstFree_0 : decode cX8_firstFree 0 = .ok (.aload_n 0, 1) := by decide +kernel
theorem dX8_firstFree_1 : decode cX8_firstFree 1 = .ok (.iload_n 1, 1) := by decide +kernel
theorem dX8_firstFree_2 : decode cX8_firstFree 2 = .ok (.invokevirtual 56, 3) := by decide +kernel
theorem dX8_firstFree_5 : decode cX8_firstFree 5 = .ok (.ifCond .eq 40, 3) := by decide +kernel
theorem dX8_firstFree_8 : decode cX8_firstFree 8 = .ok (.iload_n 2, 1) := by decide +kernel
theorem dX8_firstFree_9 : decode cX8_firstFree 9 = .ok (.i2l, 1) := by decide +kernel
theorem dX8_firstFree_10 : decode cX8_firstFree 10 = .ok (.lconst 1, 1) := by decide +kernel
theorem dX8_firstFree_11 : decode cX8_firstFree 11 = .ok (.ldc2_w 73, 3) := by decide +kernel
theorem dX8_firstFree_14 : decode cX8_firstFree 14 = .ok (.invokestatic 30, 3) := by decide +kernel
theorem dX8_firstFree_17 : decode cX8_firstFree 17 = .ok (.ifCond .eq 28, 3) := by decide +kernel
theorem dX8_firstFree_20 : decode cX8_firstFree 20 = .ok (.iload_n 3, 1) := by decide +kernel
theorem dX8_firstFree_21 : decode cX8_firstFree 21 = .ok (.i2l, 1) := by decide +kernel
theorem dX8_firstFree_22 : decode cX8_firstFree 22 = .ok (.lconst 0, 1) := by decide +kernel
theorem dX8_firstFree_23 : decode cX8_firstFree 23 = .ok (.ldc2_w 111, 3) := by decide +kernel
theorem dX8_firstFree_26 : decode cX8_firstFree 26 = .ok (.invokestatic 30, 3) := by decide +kernel
theorem dX8_firstFree_29 : decode cX8_firstFree 29 = .ok (.ifCond .eq 16, 3) := by decide +kernel
theorem dX8_firstFree_32 : decode cX8_firstFree 32 = .ok (.iload 4, 2) := by decide +kernel
theorem dX8_firstFree_34 : decode cX8_firstFree 34 = .ok (.i2l, 1) := by decide +kernel
theorem dX8_firstFree_35 : decode cX8_firstFree 35 = .ok (.lconst 1, 1) := by decide +kernel
theorem dX8_firstFree_36 : decode cX8_firstFree 36 = .ok (.ldc2_w 128, 3) := by decide +kernel
theorem dX8_firstFree_39 : decode cX8_firstFree 39 = .ok (.invokestatic 30, 3) := by decide +kernel
theorem dX8_firstFree_42 : decode cX8_firstFree 42 = .ok (.ifCond .ne 6, 3) := by decide +kernel
theorem dX8_firstFree_45 : decode cX8_firstFree 45 = .ok (.ldc 61, 2) := by decide +kernel
theorem dX8_firstFree_47 : decode cX8_firstFree 47 = .ok (.ireturn, 1) := by decide +kernel
theorem dX8_firstFree_48 : decode cX8_firstFree 48 = .ok (.iload_n 3, 1) := by decide +kernel
theorem dX8_firstFree_49 : decode cX8_firstFree 49 = .ok (.aload_n 0, 1) := by decide +kernel
theorem dX8_firstFree_50 : decode cX8_firstFree 50 = .ok (.getfield 7, 3) := by decide +kernel
theorem dX8_firstFree_53 : decode cX8_firstFree 53 = .ok (.iconst 0, 1) := by decide +kernel
theorem dX8_firstFree_54 : decode cX8_firstFree 54 = .ok (.iaload, 1) := by decide +kernel
theorem dX8_firstFree_55 : decode cX8_firstFree 55 = .ok (.if_icmp .le 7, 3) := by decide +kernel
theorem dX8_firstFree_58 : decode cX8_firstFree 58 = .ok (.iload_n 3, 1) := by decide +kernel
theorem dX8_firstFree_59 : decode cX8_firstFree 59 = .ok (.goto 9, 3) := by decide +kernel
theorem dX8_firstFree_62 : decode cX8_firstFree 62 = .ok (.aload_n 0, 1) := by decide +kernel
theorem dX8_firstFree_63 : decode cX8_firstFree 63 = .ok (.getfield 7, 3) := by decide +kernel
theorem dX8_firstFree_66 : decode cX8_firstFree 66 = .ok (.iconst 0, 1) := by decide +kernel
theorem dX8_firstFree_67 : decode cX8_firstFree 67 = .ok (.iaload, 1) := by decide +kernel
theorem dX8_firstFree_68 : decode cX8_firstFree 68 = .ok (.istore 5, 2) := by decide +kernel
theorem dX8_firstFree_70 : decode cX8_firstFree 70 = .ok (.iload 5, 2) := by decide +kernel
theorem dX8_firstFree_72 : decode cX8_firstFree 72 = .ok (.sipush 364, 3) := by decide +kernel
theorem dX8_firstFree_75 : decode cX8_firstFree 75 = .ok (.if_icmp .gt 57, 3) := by decide +kernel
theorem dX8_firstFree_78 : decode cX8_firstFree 78 = .ok (.bipush 8, 2) := by decide +kernel
theorem dX8_firstFree_80 : decode cX8_firstFree 80 = .ok (.istore 6, 2) := by decide +kernel
theorem dX8_firstFree_82 : decode cX8_firstFree 82 = .ok (.iload 6, 2) := by decide +kernel
theorem dX8_firstFree_84 : decode cX8_firstFree 84 = .ok (.iload 4, 2) := by decide +kernel
theorem dX8_firstFree_86 : decode cX8_firstFree 86 = .ok (.iadd, 1) := by decide +kernel
theorem dX8_firstFree_87 : decode cX8_firstFree 87 = .ok (.bipush 23, 2) := by decide +kernel
theorem dX8_firstFree_89 : decode cX8_firstFree 89 = .ok (.if_icmp .gt 37, 3) := by decide +kernel
theorem dX8_firstFree_92 : decode cX8_firstFree 92 = .ok (.aload_n 0, 1) := by decide +kernel
theorem dX8_firstFree_93 : decode cX8_firstFree 93 = .ok (.iload_n 1, 1) := by decide +kernel
theorem dX8_firstFree_94 : decode cX8_firstFree 94 = .ok (.iload_n 2, 1) := by decide +kernel
theorem dX8_firstFree_95 : decode cX8_firstFree 95 = .ok (.iload 5, 2) := by decide +kernel
theorem dX8_firstFree_97 : decode cX8_firstFree 97 = .ok (.iload 6, 2) := by decide +kernel
theorem dX8_firstFree_99 : decode cX8_firstFree 99 = .ok (.iload 6, 2) := by decide +kernel
theorem dX8_firstFree_101 : decode cX8_firstFree 101 = .ok (.iload 4, 2) := by decide +kernel
theorem dX8_firstFree_103 : decode cX8_firstFree 103 = .ok (.iadd, 1) := by decide +kernel
theorem dX8_firstFree_104 : decode cX8_firstFree 104 = .ok (.invokevirtual 104, 3) := by decide +kernel
theorem dX8_firstFree_107 : decode cX8_firstFree 107 = .ok (.iconst (-1), 1) := by decide +kernel
theorem dX8_firstFree_108 : decode cX8_firstFree 108 = .ok (.if_icmp .ne 12, 3) := by decide +kernel
theorem dX8_firstFree_111 : decode cX8_firstFree 111 = .ok (.bipush 100, 2) := by decide +kernel
theorem dX8_firstFree_113 : decode cX8_firstFree 113 = .ok (.iload 5, 2) := by decide +kernel
theorem dX8_firstFree_115 : decode cX8_firstFree 115 = .ok (.imul, 1) := by decide +kernel
theorem dX8_firstFree_116 : decode cX8_firstFree 116 = .ok (.iload 6, 2) := by decide +kernel
theorem dX8_firstFree_118 : decode cX8_firstFree 118 = .ok (.iadd, 1) := by decide +kernel
theorem dX8_firstFree_119 : decode cX8_firstFree 119 = .ok (.ireturn, 1) := by decide +kernel
theorem dX8_firstFree_120 : decode cX8_firstFree 120 = .ok (.iinc 6 1, 3) := by decide +kernel
theorem dX8_firstFree_123 : decode cX8_firstFree 123 = .ok (.goto (-41), 3) := by decide +kernel
theorem dX8_firstFree_126 : decode cX8_firstFree 126 = .ok (.iinc 5 1, 3) := by decide +kernel
theorem dX8_firstFree_129 : decode cX8_firstFree 129 = .ok (.goto (-59), 3) := by decide +kernel
theorem dX8_firstFree_132 : decode cX8_firstFree 132 = .ok (.ldc 19, 2) := by decide +kernel
theorem dX8_firstFree_134 : decode cX8_firstFree 134 = .ok (.ireturn, 1) := by decide +kernel
set_option maxRecDepth 20000 in
theorem ggX8_isAhead_X8_dayOf : GoodIn wsX8_isAhead wsX8_dayOf := goodIn_r _ [5, 6, 7, 8, 4, 9, 10, 11, 12, 13, 14, 15, 16, 17, 18, 19, 20, 21, 22, 23, 24, 25, 26, 27, 28, 29, 30, 31] (by decide +kernel) (by decide +kernel)
set_option maxRecDepth 20000 in
theorem gX8_isAhead_X8_dayOf : GoodIn wsX8_isAhead (wsV RX8 97 RX8 yX8_dayOf wsX8_dayOf) := goodIn_app (goodIn_of _ (by decide +kernel)) ggX8_isAhead_X8_dayOf
set_option maxRecDepth 20000 in
theorem ggX8_isAhead_X8_of : GoodIn wsX8_isAhead wsX8_of := goodIn_r _ [9, 10, 11, 12, 4, 13, 14, 15, 16, 17, 18, 19, 20, 21, 22, 23, 24, 25, 26, 27, 28, 29, 30, 31] (by decide +kernel) (by decide +kernel)
set_option maxRecDepth 20000 in
theorem gX8_isAhead_X8_of : GoodIn wsX8_isAhead (wsV RX8 42 RX8 yX8_of wsX8_of) := goodIn_app (goodIn_of _ (by decide +kernel)) ggX8_isAhead_X8_of
theorem dX8_isAhead_0 : decode cX8_isAhead 0 = .ok (.aload_n 0, 1) := by decide +kernel
theorem dX8_isAhead_1 : decode cX8_isAhead 1 = .ok (.iload_n 1, 1) := by decide +kernel
theorem dX8_isAhead_2 : decode cX8_isAhead 2 = .ok (.invokevirtual 97, 3) := by decide +kernel
theorem dX8_isAhead_5 : decode cX8_isAhead 5 = .ok (.aload_n 0, 1) := by decide +kernel
theorem dX8_isAhead_6 : decode cX8_isAhead 6 = .ok (.iload_n 2, 1) := by decide +kernel
theorem dX8_isAhead_7 : decode cX8_isAhead 7 = .ok (.invokevirtual 97, 3) := by decide +kernel
theorem dX8_isAhead_10 : decode cX8_isAhead 10 = .ok (.isub, 1) := by decide +kernel
theorem dX8_isAhead_11 : decode cX8_isAhead 11 = .ok (.istore_n 3, 1) := by decide +kernel
theorem dX8_isAhead_12 : decode cX8_isAhead 12 = .ok (.iload_n 3, 1) := by decide +kernel
theorem dX8_isAhead_13 : decode cX8_isAhead 13 = .ok (.ifCond .ne 25, 3) := by decide +kernel
theorem dX8_isAhead_16 : decode cX8_isAhead 16 = .ok (.aload_n 0, 1) := by decide +kernel
theorem dX8_isAhead_17 : decode cX8_isAhead 17 = .ok (.iload_n 1, 1) := by decide +kernel
theorem dX8_isAhead_18 : decode cX8_isAhead 18 = .ok (.bipush 20, 2) := by decide +kernel
theorem dX8_isAhead_20 : decode cX8_isAhead 20 = .ok (.idiv, 1) := by decide +kernel
theorem dX8_isAhead_21 : decode cX8_isAhead 21 = .ok (.iconst 2, 1) := by decide +kernel
theorem dX8_isAhead_22 : decode cX8_isAhead 22 = .ok (.invokevirtual 42, 3) := by decide +kernel
theorem dX8_isAhead_25 : decode cX8_isAhead 25 = .ok (.aload_n 0, 1) := by decide +kernel
theorem dX8_isAhead_26 : decode cX8_isAhead 26 = .ok (.iload_n 2, 1) := by decide +kernel
theorem dX8_isAhead_27 : decode cX8_isAhead 27 = .ok (.bipush 20, 2) := by decide +kernel
theorem dX8_isAhead_29 : decode cX8_isAhead 29 = .ok (.idiv, 1) := by decide +kernel
theorem dX8_isAhead_30 : decode cX8_isAhead 30 = .ok (.iconst 2, 1) := by decide +kernel
theorem dX8_isAhead_31 : decode cX8_isAhead 31 = .ok (.invokevirtual 42, 3) := by decide +kernel
theorem dX8_isAhead_34 : decode cX8_isAhead 34 = .ok (.isub, 1) := by decide +kernel
theorem dX8_isAhead_35 : decode cX8_isAhead 35 = .ok (.goto 4, 3) := by decide +kernel
theorem dX8_isAhead_38 : decode cX8_isAhead 38 = .ok (.iload_n 3, 1) := by decide +kernel
theorem dX8_isAhead_39 : decode cX8_isAhead 39 = .ok (.istore_n 3, 1) := by decide +kernel
theorem dX8_isAhead_40 : decode cX8_isAhead 40 = .ok (.iload_n 3, 1) := by decide +kernel
theorem dX8_isAhead_41 : decode cX8_isAhead 41 = .ok (.ifCond .lt 12, 3) := by decide +kernel
theorem dX8_isAhead_44 : decode cX8_isAhead 44 = .ok (.iload_n 3, 1) := by decide +kernel
theorem dX8_isAhead_45 : decode cX8_isAhead 45 = .ok (.ifCond .ne 12, 3) := by decide +kernel
theorem dX8_isAhead_48 : decode cX8_isAhead 48 = .ok (.iload_n 1, 1) := by decide +kernel
theorem dX8_isAhead_49 : decode cX8_isAhead 49 = .ok (.iload_n 2, 1) := by decide +kernel
theorem dX8_isAhead_50 : decode cX8_isAhead 50 = .ok (.if_icmp .ge 7, 3) := by decide +kernel
theorem dX8_isAhead_53 : decode cX8_isAhead 53 = .ok (.iconst 1, 1) := by decide +kernel
theorem dX8_isAhead_54 : decode cX8_isAhead 54 = .ok (.goto 4, 3) := by decide +kernel
theorem dX8_isAhead_57 : decode cX8_isAhead 57 = .ok (.iconst 0, 1) := by decide +kernel
theorem dX8_isAhead_58 : decode cX8_isAhead 58 = .ok (.ireturn, 1) := by decide +kernel
set_option maxRecDepth 20000 in
theorem ggX8_placeOf_X8_isSession : GoodIn wsX8_placeOf wsX8_isSession := goodIn_r _ [6, 7, 8, 9, 5, 10, 1, 11, 12, 13, 14, 15, 16, 17, 18, 19, 20, 33, 34, 35, 36, 37, 38, 39, 40, 41, 42, 43, 44, 45, 46, 47, 48, 49, 50] (by decide +kernel) (by decide +kernel)
set_option maxRecDepth 20000 in
theorem gX8_placeOf_X8_isSession : GoodIn wsX8_placeOf (wsV RX8 133 RX8 yX8_isSession wsX8_isSession) := goodIn_app (goodIn_of _ (by decide +kernel)) ggX8_placeOf_X8_isSession
set_option maxRecDepth 20000 in
theorem ggX8_placeOf_X8_stateOf : GoodIn wsX8_placeOf wsX8_stateOf := goodIn_r _ [24, 14, 15, 16, 5, 17, 1, 18, 19, 20, 33, 34, 35, 36, 37, 38, 39, 40, 41, 42, 43, 44, 45, 46, 47, 48, 49, 50] (by decide +kernel) (by decide +kernel)
set_option maxRecDepth 20000 in
theorem gX8_placeOf_X8_stateOf : GoodIn wsX8_placeOf (wsV RX8 94 RX8 yX8_stateOf wsX8_stateOf) := goodIn_app (goodIn_of _ (by decide +kernel)) ggX8_placeOf_X8_stateOf
set_option maxRecDepth 20000 in
theorem ggX8_placeOf_X8_isAhead : GoodIn wsX8_placeOf wsX8_isAhead := goodIn_r _ [28, 29, 30, 31, 5, 32, 14, 15, 16, 17, 1, 18, 19, 20, 33, 34, 35, 36, 37, 38, 39, 40, 41, 42, 43, 44, 45, 46, 47, 48, 49, 50] (by decide +kernel) (by decide +kernel)
set_option maxRecDepth 20000 in
theorem gX8_placeOf_X8_isAhead : GoodIn wsX8_placeOf (wsV RX8 141 RX8 yX8_isAhead wsX8_isAhead) := goodIn_app (goodIn_of _ (by decide +kernel)) ggX8_placeOf_X8_isAhead
theorem dX8_placeOf_0 : decode cX8_placeOf 0 = .ok (.iconst 0, 1) := by decide +kernel
theorem dX8_placeOf_1 : decode cX8_placeOf 1 = .ok (.istore_n 2, 1) := by decide +kernel
theorem dX8_placeOf_2 : decode cX8_placeOf 2 = .ok (.iconst 0, 1) := by decide +kernel
theorem dX8_placeOf_3 : decode cX8_placeOf 3 = .ok (.istore_n 3, 1) := by decide +kernel
theorem dX8_placeOf_4 : decode cX8_placeOf 4 = .ok (.iload_n 3, 1) := by decide +kernel
theorem dX8_placeOf_5 : decode cX8_placeOf 5 = .ok (.bipush 20, 2) := by decide +kernel
theorem dX8_placeOf_7 : decode cX8_placeOf 7 = .ok (.aload_n 0, 1) := by decide +kernel
theorem dX8_placeOf_8 : decode cX8_placeOf 8 = .ok (.getfield 7, 3) := by decide +kernel
theorem dX8_placeOf_11 : decode cX8_placeOf 11 = .ok (.bipush 10, 2) := by decide +kernel
theorem dX8_placeOf_13 : decode cX8_placeOf 13 = .ok (.iaload, 1) := by decide +kernel
theorem dX8_placeOf_14 : decode cX8_placeOf 14 = .ok (.imul, 1) := by decide +kernel
theorem dX8_placeOf_15 : decode cX8_placeOf 15 = .ok (.if_icmp .ge 43, 3) := by decide +kernel
theorem dX8_placeOf_18 : decode cX8_placeOf 18 = .ok (.iload_n 2, 1) := by decide +kernel
theorem dX8_placeOf_19 : decode cX8_placeOf 19 = .ok (.aload_n 0, 1) := by decide +kernel
theorem dX8_placeOf_20 : decode cX8_placeOf 20 = .ok (.iload_n 3, 1) := by decide +kernel
theorem dX8_placeOf_21 : decode cX8_placeOf 21 = .ok (.invokevirtual 133, 3) := by decide +kernel
theorem dX8_placeOf_24 : decode cX8_placeOf 24 = .ok (.ifCond .eq 25, 3) := by decide +kernel
theorem dX8_placeOf_27 : decode cX8_placeOf 27 = .ok (.aload_n 0, 1) := by decide +kernel
theorem dX8_placeOf_28 : decode cX8_placeOf 28 = .ok (.iload_n 3, 1) := by decide +kernel
theorem dX8_placeOf_29 : decode cX8_placeOf 29 = .ok (.invokevirtual 94, 3) := by decide +kernel
theorem dX8_placeOf_32 : decode cX8_placeOf 32 = .ok (.iconst 2, 1) := by decide +kernel
theorem dX8_placeOf_33 : decode cX8_placeOf 33 = .ok (.if_icmp .eq 16, 3) := by decide +kernel
theorem dX8_placeOf_36 : decode cX8_placeOf 36 = .ok (.aload_n 0, 1) := by decide +kernel
theorem dX8_placeOf_37 : decode cX8_placeOf 37 = .ok (.iload_n 3, 1) := by decide +kernel
theorem dX8_placeOf_38 : decode cX8_placeOf 38 = .ok (.iload_n 1, 1) := by decide +kernel
theorem dX8_placeOf_39 : decode cX8_placeOf 39 = .ok (.invokevirtual 141, 3) := by decide +kernel
theorem dX8_placeOf_42 : decode cX8_placeOf 42 = .ok (.ifCond .eq 7, 3) := by decide +kernel
theorem dX8_placeOf_45 : decode cX8_placeOf 45 = .ok (.iconst 1, 1) := by decide +kernel
theorem dX8_placeOf_46 : decode cX8_placeOf 46 = .ok (.goto 4, 3) := by decide +kernel
theorem dX8_placeOf_49 : decode cX8_placeOf 49 = .ok (.iconst 0, 1) := by decide +kernel
theorem dX8_placeOf_50 : decode cX8_placeOf 50 = .ok (.iadd, 1) := by decide +kernel
theorem dX8_placeOf_51 : decode cX8_placeOf 51 = .ok (.istore_n 2, 1) := by decide +kernel
theorem dX8_placeOf_52 : decode cX8_placeOf 52 = .ok (.iinc 3 1, 3) := by decide +kernel
theorem dX8_placeOf_55 : decode cX8_placeOf 55 = .ok (.goto (-51), 3) := by decide +kernel
theorem dX8_placeOf_58 : decode cX8_placeOf 58 = .ok (.iload_n 2, 1) := by decide +kernel
theorem dX8_placeOf_59 : decode cX8_placeOf 59 = .ok (.ireturn, 1) := by decide +kernel
set_option maxRecDepth 20000 in
theorem ggX8_inOrder_X8_isSession : GoodIn wsX8_inOrder wsX8_isSession := goodIn_r _ [8, 9, 10, 11, 7, 12, 2, 13, 14, 15, 16, 17, 18, 19, 20, 21, 22, 39, 40, 41, 42, 43, 44, 45, 46, 47, 48, 49, 50, 51, 52, 53, 54, 55, 56] (by decide +kernel) (by decide +kernel)
set_option maxRecDepth 20000 in
theorem gX8_inOrder_X8_isSession : GoodIn wsX8_inOrder (wsV RX8 133 RX8 yX8_isSession wsX8_isSession) := goodIn_app (goodIn_of _ (by decide +kernel)) ggX8_inOrder_X8_isSession
set_option maxRecDepth 20000 in
theorem ggX8_inOrder_X8_stateOf : GoodIn wsX8_inOrder wsX8_stateOf := goodIn_r _ [26, 16, 17, 18, 7, 19, 2, 20, 21, 22, 39, 40, 41, 42, 43, 44, 45, 46, 47, 48, 49, 50, 51, 52, 53, 54, 55, 56] (by decide +kernel) (by decide +kernel)
set_option maxRecDepth 20000 in
theorem gX8_inOrder_X8_stateOf : GoodIn wsX8_inOrder (wsV RX8 94 RX8 yX8_stateOf wsX8_stateOf) := goodIn_app (goodIn_of _ (by decide +kernel)) ggX8_inOrder_X8_stateOf
set_option maxRecDepth 20000 in
theorem ggX8_inOrder_X8_placeOf : GoodIn wsX8_inOrder wsX8_placeOf := goodIn_r _ [30, 2, 4, 5, 6, 7, 8, 9, 10, 11, 12, 13, 14, 15, 16, 17, 18, 19, 20, 21, 22, 23, 24, 25, 26, 31, 32, 33, 34, 35, 36, 37, 38, 39, 40, 41, 42, 43, 44, 45, 46, 47, 48, 49, 50, 51, 52, 53, 54, 55, 56] (by decide +kernel) (by decide +kernel)
set_option maxRecDepth 20000 in
theorem gX8_inOrder_X8_placeOf : GoodIn wsX8_inOrder (wsV RX8 145 RX8 yX8_placeOf wsX8_placeOf) := goodIn_app (goodIn_of _ (by decide +kernel)) ggX8_inOrder_X8_placeOf
theorem dX8_inOrder_0 : decode cX8_inOrder 0 = .ok (.iload_n 1, 1) := by decide +kernel
theorem dX8_inOrder_1 : decode cX8_inOrder 1 = .ok (.ifCond .ge 6, 3) := by decide +kernel
theorem dX8_inOrder_4 : decode cX8_inOrder 4 = .ok (.ldc 61, 2) := by decide +kernel
theorem dX8_inOrder_6 : decode cX8_inOrder 6 = .ok (.ireturn, 1) := by decide +kernel
theorem dX8_inOrder_7 : decode cX8_inOrder 7 = .ok (.iconst 0, 1) := by decide +kernel
theorem dX8_inOrder_8 : decode cX8_inOrder 8 = .ok (.istore_n 2, 1) := by decide +kernel
theorem dX8_inOrder_9 : decode cX8_inOrder 9 = .ok (.iload_n 2, 1) := by decide +kernel
theorem dX8_inOrder_10 : decode cX8_inOrder 10 = .ok (.bipush 20, 2) := by decide +kernel
theorem dX8_inOrder_12 : decode cX8_inOrder 12 = .ok (.aload_n 0, 1) := by decide +kernel
theorem dX8_inOrder_13 : decode cX8_inOrder 13 = .ok (.getfield 7, 3) := by decide +kernel
theorem dX8_inOrder_16 : decode cX8_inOrder 16 = .ok (.bipush 10, 2) := by decide +kernel
theorem dX8_inOrder_18 : decode cX8_inOrder 18 = .ok (.iaload, 1) := by decide +kernel
theorem dX8_inOrder_19 : decode cX8_inOrder 19 = .ok (.imul, 1) := by decide +kernel
theorem dX8_inOrder_20 : decode cX8_inOrder 20 = .ok (.if_icmp .ge 37, 3) := by decide +kernel
theorem dX8_inOrder_23 : decode cX8_inOrder 23 = .ok (.aload_n 0, 1) := by decide +kernel
theorem dX8_inOrder_24 : decode cX8_inOrder 24 = .ok (.iload_n 2, 1) := by decide +kernel
theorem dX8_inOrder_25 : decode cX8_inOrder 25 = .ok (.invokevirtual 133, 3) := by decide +kernel
theorem dX8_inOrder_28 : decode cX8_inOrder 28 = .ok (.ifCond .eq 23, 3) := by decide +kernel
theorem dX8_inOrder_31 : decode cX8_inOrder 31 = .ok (.aload_n 0, 1) := by decide +kernel
theorem dX8_inOrder_32 : decode cX8_inOrder 32 = .ok (.iload_n 2, 1) := by decide +kernel
theorem dX8_inOrder_33 : decode cX8_inOrder 33 = .ok (.invokevirtual 94, 3) := by decide +kernel
theorem dX8_inOrder_36 : decode cX8_inOrder 36 = .ok (.iconst 2, 1) := by decide +kernel
theorem dX8_inOrder_37 : decode cX8_inOrder 37 = .ok (.if_icmp .eq 14, 3) := by decide +kernel
theorem dX8_inOrder_40 : decode cX8_inOrder 40 = .ok (.aload_n 0, 1) := by decide +kernel
theorem dX8_inOrder_41 : decode cX8_inOrder 41 = .ok (.iload_n 2, 1) := by decide +kernel
theorem dX8_inOrder_42 : decode cX8_inOrder 42 = .ok (.invokevirtual 145, 3) := by decide +kernel
theorem dX8_inOrder_45 : decode cX8_inOrder 45 = .ok (.iload_n 1, 1) := by decide +kernel
theorem dX8_inOrder_46 : decode cX8_inOrder 46 = .ok (.if_icmp .ne 5, 3) := by decide +kernel
theorem dX8_inOrder_49 : decode cX8_inOrder 49 = .ok (.iload_n 2, 1) := by decide +kernel
theorem dX8_inOrder_50 : decode cX8_inOrder 50 = .ok (.ireturn, 1) := by decide +kernel
theorem dX8_inOrder_51 : decode cX8_inOrder 51 = .ok (.iinc 2 1, 3) := by decide +kernel
theorem dX8_inOrder_54 : decode cX8_inOrder 54 = .ok (.goto (-45), 3) := by decide +kernel
theorem dX8_inOrder_57 : decode cX8_inOrder 57 = .ok (.ldc 19, 2) := by decide +kernel
theorem dX8_inOrder_59 : decode cX8_inOrder 59 = .ok (.ireturn, 1) := by decide +kernel
set_option maxRecDepth 20000 in
theorem ggX8_holdsToday_X8_isSession : GoodIn wsX8_holdsToday wsX8_isSession := goodIn_r _ [6, 7, 8, 9, 5, 10, 1, 11, 12, 13, 14, 15, 16, 17, 18, 19, 20, 29, 30, 31, 32, 33, 34, 35, 36, 37, 38, 39, 40, 41, 42, 43, 44, 45, 46] (by decide +kernel) (by decide +kernel)
set_option maxRecDepth 20000 in
theorem gX8_holdsToday_X8_isSession : GoodIn wsX8_holdsToday (wsV RX8 133 RX8 yX8_isSession wsX8_isSession) := goodIn_app (goodIn_of _ (by decide +kernel)) ggX8_holdsToday_X8_isSession
set_option maxRecDepth 20000 in
theorem ggX8_holdsToday_X8_stateOf : GoodIn wsX8_holdsToday wsX8_stateOf := goodIn_r _ [24, 14, 15, 16, 5, 17, 1, 18, 19, 20, 29, 30, 31, 32, 33, 34, 35, 36, 37, 38, 39, 40, 41, 42, 43, 44, 45, 46] (by decide +kernel) (by decide +kernel)
set_option maxRecDepth 20000 in
theorem gX8_holdsToday_X8_stateOf : GoodIn wsX8_holdsToday (wsV RX8 94 RX8 yX8_stateOf wsX8_stateOf) := goodIn_app (goodIn_of _ (by decide +kernel)) ggX8_holdsToday_X8_stateOf
set_option maxRecDepth 20000 in
theorem ggX8_holdsToday_X8_dayOf : GoodIn wsX8_holdsToday wsX8_dayOf := goodIn_r _ [28, 14, 15, 16, 5, 17, 1, 18, 19, 20, 29, 30, 31, 32, 33, 34, 35, 36, 37, 38, 39, 40, 41, 42, 43, 44, 45, 46] (by decide +kernel) (by decide +kernel)
set_option maxRecDepth 20000 in
theorem gX8_holdsToday_X8_dayOf : GoodIn wsX8_holdsToday (wsV RX8 97 RX8 yX8_dayOf wsX8_dayOf) := goodIn_app (goodIn_of _ (by decide +kernel)) ggX8_holdsToday_X8_dayOf
set_option maxRecDepth 20000 in
theorem ggX8_holdsToday_X8_at : GoodIn wsX8_holdsToday wsX8_at := goodIn_r _ [20] (by decide +kernel) (by decide +kernel)
set_option maxRecDepth 20000 in
theorem gX8_holdsToday_X8_at : GoodIn wsX8_holdsToday (va_wsS RX8 34 yX8_at wsX8_at) := goodIn_app (goodIn_of _ (by decide +kernel)) ggX8_holdsToday_X8_at
theorem dX8_holdsToday_0 : decode cX8_holdsToday 0 = .ok (.iconst 0, 1) := by decide +kernel
theorem dX8_holdsToday_1 : decode cX8_holdsToday 1 = .ok (.istore_n 1, 1) := by decide +kernel
theorem dX8_holdsToday_2 : decode cX8_holdsToday 2 = .ok (.iconst 0, 1) := by decide +kernel
theorem dX8_holdsToday_3 : decode cX8_holdsToday 3 = .ok (.istore_n 2, 1) := by decide +kernel
theorem dX8_holdsToday_4 : decode cX8_holdsToday 4 = .ok (.iload_n 2, 1) := by decide +kernel
theorem dX8_holdsToday_5 : decode cX8_holdsToday 5 = .ok (.bipush 20, 2) := by decide +kernel
theorem dX8_holdsToday_7 : decode cX8_holdsToday 7 = .ok (.aload_n 0, 1) := by decide +kernel
theorem dX8_holdsToday_8 : decode cX8_holdsToday 8 = .ok (.getfield 7, 3) := by decide +kernel
theorem dX8_holdsToday_11 : decode cX8_holdsToday 11 = .ok (.bipush 10, 2) := by decide +kernel
theorem dX8_holdsToday_13 : decode cX8_holdsToday 13 = .ok (.iaload, 1) := by decide +kernel
theorem dX8_holdsToday_14 : decode cX8_holdsToday 14 = .ok (.imul, 1) := by decide +kernel
theorem dX8_holdsToday_15 : decode cX8_holdsToday 15 = .ok (.if_icmp .ge 62, 3) := by decide +kernel
theorem dX8_holdsToday_18 : decode cX8_holdsToday 18 = .ok (.aload_n 0, 1) := by decide +kernel
theorem dX8_holdsToday_19 : decode cX8_holdsToday 19 = .ok (.iload_n 2, 1) := by decide +kernel
theorem dX8_holdsToday_20 : decode cX8_holdsToday 20 = .ok (.invokevirtual 133, 3) := by decide +kernel
theorem dX8_holdsToday_23 : decode cX8_holdsToday 23 = .ok (.ifCond .eq 48, 3) := by decide +kernel
theorem dX8_holdsToday_26 : decode cX8_holdsToday 26 = .ok (.aload_n 0, 1) := by decide +kernel
theorem dX8_holdsToday_27 : decode cX8_holdsToday 27 = .ok (.iload_n 2, 1) := by decide +kernel
theorem dX8_holdsToday_28 : decode cX8_holdsToday 28 = .ok (.invokevirtual 94, 3) := by decide +kernel
theorem dX8_holdsToday_31 : decode cX8_holdsToday 31 = .ok (.ifCond .ne 40, 3) := by decide +kernel
theorem dX8_holdsToday_34 : decode cX8_holdsToday 34 = .ok (.aload_n 0, 1) := by decide +kernel
theorem dX8_holdsToday_35 : decode cX8_holdsToday 35 = .ok (.iload_n 2, 1) := by decide +kernel
theorem dX8_holdsToday_36 : decode cX8_holdsToday 36 = .ok (.invokevirtual 97, 3) := by decide +kernel
theorem dX8_holdsToday_39 : decode cX8_holdsToday 39 = .ok (.aload_n 0, 1) := by decide +kernel
theorem dX8_holdsToday_40 : decode cX8_holdsToday 40 = .ok (.getfield 7, 3) := by decide +kernel
theorem dX8_holdsToday_43 : decode cX8_holdsToday 43 = .ok (.iconst 0, 1) := by decide +kernel
theorem dX8_holdsToday_44 : decode cX8_holdsToday 44 = .ok (.iaload, 1) := by decide +kernel
theorem dX8_holdsToday_45 : decode cX8_holdsToday 45 = .ok (.if_icmp .ne 26, 3) := by decide +kernel
theorem dX8_holdsToday_48 : decode cX8_holdsToday 48 = .ok (.aload_n 0, 1) := by decide +kernel
theorem dX8_holdsToday_49 : decode cX8_holdsToday 49 = .ok (.getfield 7, 3) := by decide +kernel
theorem dX8_holdsToday_52 : decode cX8_holdsToday 52 = .ok (.iload_n 2, 1) := by decide +kernel
theorem dX8_holdsToday_53 : decode cX8_holdsToday 53 = .ok (.bipush 20, 2) := by decide +kernel
theorem dX8_holdsToday_55 : decode cX8_holdsToday 55 = .ok (.idiv, 1) := by decide +kernel
theorem dX8_holdsToday_56 : decode cX8_holdsToday 56 = .ok (.bipush 12, 2) := by decide +kernel
theorem dX8_holdsToday_58 : decode cX8_holdsToday 58 = .ok (.iload_n 2, 1) := by decide +kernel
theorem dX8_holdsToday_59 : decode cX8_holdsToday 59 = .ok (.bipush 20, 2) := by decide +kernel
theorem dX8_holdsToday_61 : decode cX8_holdsToday 61 = .ok (.irem, 1) := by decide +kernel
theorem dX8_holdsToday_62 : decode cX8_holdsToday 62 = .ok (.iadd, 1) := by decide +kernel
theorem dX8_holdsToday_63 : decode cX8_holdsToday 63 = .ok (.invokestatic 34, 3) := by decide +kernel
theorem dX8_holdsToday_66 : decode cX8_holdsToday 66 = .ok (.iconst 1, 1) := by decide +kernel
theorem dX8_holdsToday_67 : decode cX8_holdsToday 67 = .ok (.iastore, 1) := by decide +kernel
theorem dX8_holdsToday_68 : decode cX8_holdsToday 68 = .ok (.iinc 1 1, 3) := by decide +kernel
theorem dX8_holdsToday_71 : decode cX8_holdsToday 71 = .ok (.iinc 2 1, 3) := by decide +kernel
theorem dX8_holdsToday_74 : decode cX8_holdsToday 74 = .ok (.goto (-70), 3) := by decide +kernel
theorem dX8_holdsToday_77 : decode cX8_holdsToday 77 = .ok (.iload_n 1, 1) := by decide +kernel
theorem dX8_holdsToday_78 : decode cX8_holdsToday 78 = .ok (.ireturn, 1) := by decide +kernel
set_option maxRecDepth 20000 in
theorem ggX8_takes_X8_of : GoodIn wsX8_takes wsX8_of := goodIn_r _ [6, 1, 7, 8, 5, 9, 14, 15, 16, 17, 18, 19, 20, 21, 22, 23, 24, 25, 26, 27, 28, 29, 30, 31] (by decide +kernel) (by decide +kernel)
set_option maxRecDepth 20000 in
theorem gX8_takes_X8_of : GoodIn wsX8_takes (wsV RX8 42 RX8 yX8_of wsX8_of) := goodIn_app (goodIn_of _ (by decide +kernel)) ggX8_takes_X8_of
set_option maxRecDepth 20000 in
theorem ggX8_takes_X8_at : GoodIn wsX8_takes wsX8_at := goodIn_r _ [9] (by decide +kernel) (by decide +kernel)
set_option maxRecDepth 20000 in
theorem gX8_takes_X8_at : GoodIn wsX8_takes (va_wsS RX8 34 yX8_at wsX8_at) := goodIn_app (goodIn_of _ (by decide +kernel)) ggX8_takes_X8_at
set_option maxRecDepth 20000 in
theorem ggX8_takes_X8_charges : GoodIn wsX8_takes wsX8_charges := goodIn_r _ [13, 1, 14, 15, 16, 17, 18, 19, 20, 21, 22, 23, 24, 25, 26, 27, 28, 29, 30, 31] (by decide +kernel) (by decide +kernel)
set_option maxRecDepth 20000 in
theorem gX8_takes_X8_charges : GoodIn wsX8_takes (wsV RX8 108 RX8 yX8_charges wsX8_charges) := goodIn_app (goodIn_of _ (by decide +kernel)) ggX8_takes_X8_charges
theorem dX8_takes_0 : decode cX8_takes 0 = .ok (.iload_n 2, 1) := by decide +kernel
theorem dX8_takes_1 : decode cX8_takes 1 = .ok (.aload_n 0, 1) := by decide +kernel
theorem dX8_takes_2 : decode cX8_takes 2 = .ok (.iload_n 1, 1) := by decide +kernel
theorem dX8_takes_3 : decode cX8_takes 3 = .ok (.bipush 9, 2) := by decide +kernel
theorem dX8_takes_5 : decode cX8_takes 5 = .ok (.invokevirtual 42, 3) := by decide +kernel
theorem dX8_takes_8 : decode cX8_takes 8 = .ok (.if_icmp .ge 7, 3) := by decide +kernel
theorem dX8_takes_11 : decode cX8_takes 11 = .ok (.iload_n 2, 1) := by decide +kernel
theorem dX8_takes_12 : decode cX8_takes 12 = .ok (.goto 10, 3) := by decide +kernel
theorem dX8_takes_15 : decode cX8_takes 15 = .ok (.aload_n 0, 1) := by decide +kernel
theorem dX8_takes_16 : decode cX8_takes 16 = .ok (.iload_n 1, 1) := by decide +kernel
theorem dX8_takes_17 : decode cX8_takes 17 = .ok (.bipush 9, 2) := by decide +kernel
theorem dX8_takes_19 : decode cX8_takes 19 = .ok (.invokevirtual 42, 3) := by decide +kernel
theorem dX8_takes_22 : decode cX8_takes 22 = .ok (.istore 4, 2) := by decide +kernel
theorem dX8_takes_24 : decode cX8_takes 24 = .ok (.aload_n 0, 1) := by decide +kernel
theorem dX8_takes_25 : decode cX8_takes 25 = .ok (.getfield 7, 3) := by decide +kernel
theorem dX8_takes_28 : decode cX8_takes 28 = .ok (.iload_n 1, 1) := by decide +kernel
theorem dX8_takes_29 : decode cX8_takes 29 = .ok (.bipush 9, 2) := by decide +kernel
theorem dX8_takes_31 : decode cX8_takes 31 = .ok (.invokestatic 34, 3) := by decide +kernel
theorem dX8_takes_34 : decode cX8_takes 34 = .ok (.dup2, 1) := by decide +kernel
theorem dX8_takes_35 : decode cX8_takes 35 = .ok (.iaload, 1) := by decide +kernel
theorem dX8_takes_36 : decode cX8_takes 36 = .ok (.iload 4, 2) := by decide +kernel
theorem dX8_takes_38 : decode cX8_takes 38 = .ok (.isub, 1) := by decide +kernel
theorem dX8_takes_39 : decode cX8_takes 39 = .ok (.iastore, 1) := by decide +kernel
theorem dX8_takes_40 : decode cX8_takes 40 = .ok (.aload_n 0, 1) := by decide +kernel
theorem dX8_takes_41 : decode cX8_takes 41 = .ok (.getfield 7, 3) := by decide +kernel
theorem dX8_takes_44 : decode cX8_takes 44 = .ok (.bipush 14, 2) := by decide +kernel
theorem dX8_takes_46 : decode cX8_takes 46 = .ok (.dup2, 1) := by decide +kernel
theorem dX8_takes_47 : decode cX8_takes 47 = .ok (.iaload, 1) := by decide +kernel
theorem dX8_takes_48 : decode cX8_takes 48 = .ok (.iload 4, 2) := by decide +kernel
theorem dX8_takes_50 : decode cX8_takes 50 = .ok (.isub, 1) := by decide +kernel
theorem dX8_takes_51 : decode cX8_takes 51 = .ok (.iastore, 1) := by decide +kernel
theorem dX8_takes_52 : decode cX8_takes 52 = .ok (.aload_n 0, 1) := by decide +kernel
theorem dX8_takes_53 : decode cX8_takes 53 = .ok (.getfield 7, 3) := by decide +kernel
theorem dX8_takes_56 : decode cX8_takes 56 = .ok (.bipush 11, 2) := by decide +kernel
theorem dX8_takes_58 : decode cX8_takes 58 = .ok (.iload_n 3, 1) := by decide +kernel
theorem dX8_takes_59 : decode cX8_takes 59 = .ok (.iadd, 1) := by decide +kernel
theorem dX8_takes_60 : decode cX8_takes 60 = .ok (.dup2, 1) := by decide +kernel
theorem dX8_takes_61 : decode cX8_takes 61 = .ok (.iaload, 1) := by decide +kernel
theorem dX8_takes_62 : decode cX8_takes 62 = .ok (.iload 4, 2) := by decide +kernel
theorem dX8_takes_64 : decode cX8_takes 64 = .ok (.iadd, 1) := by decide +kernel
theorem dX8_takes_65 : decode cX8_takes 65 = .ok (.iastore, 1) := by decide +kernel
theorem dX8_takes_66 : decode cX8_takes 66 = .ok (.aload_n 0, 1) := by decide +kernel
theorem dX8_takes_67 : decode cX8_takes 67 = .ok (.getfield 7, 3) := by decide +kernel
theorem dX8_takes_70 : decode cX8_takes 70 = .ok (.bipush 18, 2) := by decide +kernel
theorem dX8_takes_72 : decode cX8_takes 72 = .ok (.dup2, 1) := by decide +kernel
theorem dX8_takes_73 : decode cX8_takes 73 = .ok (.iaload, 1) := by decide +kernel
theorem dX8_takes_74 : decode cX8_takes 74 = .ok (.iload_n 2, 1) := by decide +kernel
theorem dX8_takes_75 : decode cX8_takes 75 = .ok (.iload 4, 2) := by decide +kernel
theorem dX8_takes_77 : decode cX8_takes 77 = .ok (.isub, 1) := by decide +kernel
theorem dX8_takes_78 : decode cX8_takes 78 = .ok (.iadd, 1) := by decide +kernel
theorem dX8_takes_79 : decode cX8_takes 79 = .ok (.iastore, 1) := by decide +kernel
theorem dX8_takes_80 : decode cX8_takes 80 = .ok (.aload_n 0, 1) := by decide +kernel
theorem dX8_takes_81 : decode cX8_takes 81 = .ok (.aload_n 0, 1) := by decide +kernel
theorem dX8_takes_82 : decode cX8_takes 82 = .ok (.iload_n 1, 1) := by decide +kernel
theorem dX8_takes_83 : decode cX8_takes 83 = .ok (.iconst 0, 1) := by decide +kernel
theorem dX8_takes_84 : decode cX8_takes 84 = .ok (.invokevirtual 42, 3) := by decide +kernel
theorem dX8_takes_87 : decode cX8_takes 87 = .ok (.iload_n 2, 1) := by decide +kernel
theorem dX8_takes_88 : decode cX8_takes 88 = .ok (.iload 4, 2) := by decide +kernel
theorem dX8_takes_90 : decode cX8_takes 90 = .ok (.isub, 1) := by decide +kernel
theorem dX8_takes_91 : decode cX8_takes 91 = .ok (.invokevirtual 108, 3) := by decide +kernel
theorem dX8_takes_94 : decode cX8_takes 94 = .ok (.iload 4, 2) := by decide +kernel
theorem dX8_takes_96 : decode cX8_takes 96 = .ok (.ireturn, 1) := by decide +kernel
theorem dX8_lateBy_0 : decode cX8_lateBy 0 = .ok (.aload_n 0, 1) := by decide +kernel
theorem dX8_lateBy_1 : decode cX8_lateBy 1 = .ok (.getfield 7, 3) := by decide +kernel
theorem dX8_lateBy_4 : decode cX8_lateBy 4 = .ok (.bipush 40, 2) := by decide +kernel
theorem dX8_lateBy_6 : decode cX8_lateBy 6 = .ok (.iconst 2, 1) := by decide +kernel
theorem dX8_lateBy_7 : decode cX8_lateBy 7 = .ok (.iload_n 1, 1) := by decide +kernel
theorem dX8_lateBy_8 : decode cX8_lateBy 8 = .ok (.imul, 1) := by decide +kernel
theorem dX8_lateBy_9 : decode cX8_lateBy 9 = .ok (.iadd, 1) := by decide +kernel
theorem dX8_lateBy_10 : decode cX8_lateBy 10 = .ok (.iaload, 1) := by decide +kernel
theorem dX8_lateBy_11 : decode cX8_lateBy 11 = .ok (.iconst (-1), 1) := by decide +kernel
theorem dX8_lateBy_12 : decode cX8_lateBy 12 = .ok (.if_icmp .eq 29, 3) := by decide +kernel
theorem dX8_lateBy_15 : decode cX8_lateBy 15 = .ok (.aload_n 0, 1) := by decide +kernel
theorem dX8_lateBy_16 : decode cX8_lateBy 16 = .ok (.getfield 7, 3) := by decide +kernel
theorem dX8_lateBy_19 : decode cX8_lateBy 19 = .ok (.iconst 0, 1) := by decide +kernel
theorem dX8_lateBy_20 : decode cX8_lateBy 20 = .ok (.iaload, 1) := by decide +kernel
theorem dX8_lateBy_21 : decode cX8_lateBy 21 = .ok (.aload_n 0, 1) := by decide +kernel
theorem dX8_lateBy_22 : decode cX8_lateBy 22 = .ok (.getfield 7, 3) := by decide +kernel
theorem dX8_lateBy_25 : decode cX8_lateBy 25 = .ok (.bipush 40, 2) := by decide +kernel
theorem dX8_lateBy_27 : decode cX8_lateBy 27 = .ok (.iconst 2, 1) := by decide +kernel
theorem dX8_lateBy_28 : decode cX8_lateBy 28 = .ok (.iload_n 1, 1) := by decide +kernel
theorem dX8_lateBy_29 : decode cX8_lateBy 29 = .ok (.imul, 1) := by decide +kernel
theorem dX8_lateBy_30 : decode cX8_lateBy 30 = .ok (.iadd, 1) := by decide +kernel
theorem dX8_lateBy_31 : decode cX8_lateBy 31 = .ok (.iconst 1, 1) := by decide +kernel
theorem dX8_lateBy_32 : decode cX8_lateBy 32 = .ok (.iadd, 1) := by decide +kernel
theorem dX8_lateBy_33 : decode cX8_lateBy 33 = .ok (.iaload, 1) := by decide +kernel
theorem dX8_lateBy_34 : decode cX8_lateBy 34 = .ok (.if_icmp .le 7, 3) := by decide +kernel
theorem dX8_lateBy_37 : decode cX8_lateBy 37 = .ok (.iconst 1, 1) := by decide +kernel
theorem dX8_lateBy_38 : decode cX8_lateBy 38 = .ok (.goto 4, 3) := by decide +kernel
theorem dX8_lateBy_41 : decode cX8_lateBy 41 = .ok (.iconst 0, 1) := by decide +kernel
theorem dX8_lateBy_42 : decode cX8_lateBy 42 = .ok (.istore_n 2, 1) := by decide +kernel
theorem dX8_lateBy_43 : decode cX8_lateBy 43 = .ok (.iload_n 2, 1) := by decide +kernel
theorem dX8_lateBy_44 : decode cX8_lateBy 44 = .ok (.ifCond .eq 26, 3) := by decide +kernel
theorem dX8_lateBy_47 : decode cX8_lateBy 47 = .ok (.aload_n 0, 1) := by decide +kernel
theorem dX8_lateBy_48 : decode cX8_lateBy 48 = .ok (.getfield 7, 3) := by decide +kernel
theorem dX8_lateBy_51 : decode cX8_lateBy 51 = .ok (.iconst 0, 1) := by decide +kernel
theorem dX8_lateBy_52 : decode cX8_lateBy 52 = .ok (.iaload, 1) := by decide +kernel
theorem dX8_lateBy_53 : decode cX8_lateBy 53 = .ok (.aload_n 0, 1) := by decide +kernel
theorem dX8_lateBy_54 : decode cX8_lateBy 54 = .ok (.getfield 7, 3) := by decide +kernel
theorem dX8_lateBy_57 : decode cX8_lateBy 57 = .ok (.bipush 40, 2) := by decide +kernel
theorem dX8_lateBy_59 : decode cX8_lateBy 59 = .ok (.iconst 2, 1) := by decide +kernel
theorem dX8_lateBy_60 : decode cX8_lateBy 60 = .ok (.iload_n 1, 1) := by decide +kernel
theorem dX8_lateBy_61 : decode cX8_lateBy 61 = .ok (.imul, 1) := by decide +kernel
theorem dX8_lateBy_62 : decode cX8_lateBy 62 = .ok (.iadd, 1) := by decide +kernel
theorem dX8_lateBy_63 : decode cX8_lateBy 63 = .ok (.iconst 1, 1) := by decide +kernel
theorem dX8_lateBy_64 : decode cX8_lateBy 64 = .ok (.iadd, 1) := by decide +kernel
theorem dX8_lateBy_65 : decode cX8_lateBy 65 = .ok (.iaload, 1) := by decide +kernel
theorem dX8_lateBy_66 : decode cX8_lateBy 66 = .ok (.isub, 1) := by decide +kernel
theorem dX8_lateBy_67 : decode cX8_lateBy 67 = .ok (.goto 4, 3) := by decide +kernel
theorem dX8_lateBy_70 : decode cX8_lateBy 70 = .ok (.iconst 0, 1) := by decide +kernel
theorem dX8_lateBy_71 : decode cX8_lateBy 71 = .ok (.ireturn, 1) := by decide +kernel
set_option maxRecDepth 20000 in
theorem ggX8_pass_X8_in : GoodIn wsX8_pass wsX8_in := goodIn_r _ [8] (by decide +kernel) (by decide +kernel)
set_option maxRecDepth 20000 in
theorem gX8_pass_X8_in : GoodIn wsX8_pass (va_wsS RX8 30 yX8_in wsX8_in) := goodIn_app (goodIn_of _ (by decide +kernel)) ggX8_pass_X8_in
set_option maxRecDepth 20000 in
theorem ggX8_pass_X8_save : GoodIn wsX8_pass wsX8_save := goodIn_r _ [12, 13, 14, 3, 54, 55, 56, 57, 58, 59, 60, 61, 62, 63, 64, 65, 66, 67, 68, 69, 70, 71] (by decide +kernel) (by decide +kernel)
set_option maxRecDepth 20000 in
theorem gX8_pass_X8_save : GoodIn wsX8_pass (wsV RX8 46 RX8 yX8_save wsX8_save) := goodIn_app (goodIn_of _ (by decide +kernel)) ggX8_pass_X8_save
set_option maxRecDepth 20000 in
theorem ggX8_pass_X8_holdsToday : GoodIn wsX8_pass wsX8_holdsToday := goodIn_r _ [18, 3, 19, 20, 21, 7, 22, 23, 24, 25, 26, 5, 6, 8, 27, 28, 29, 30, 31, 32, 33, 34, 35, 36, 37, 38, 39, 40, 41, 54, 55, 56, 57, 58, 59, 60, 61, 62, 63, 64, 65, 66, 67, 68, 69, 70, 71] (by decide +kernel) (by decide +kernel)
set_option maxRecDepth 20000 in
theorem gX8_pass_X8_holdsToday : GoodIn wsX8_pass (wsV RX8 148 RX8 yX8_holdsToday wsX8_holdsToday) := goodIn_app (goodIn_of _ (by decide +kernel)) ggX8_pass_X8_holdsToday
set_option maxRecDepth 20000 in
theorem ggX8_pass_X8_lateBy : GoodIn wsX8_pass wsX8_lateBy := goodIn_r _ [45, 3, 54, 55, 56, 57, 58, 59, 60, 61, 62, 63, 64, 65, 66, 67, 68, 69, 70, 71] (by decide +kernel) (by decide +kernel)
set_option maxRecDepth 20000 in
theorem gX8_pass_X8_lateBy : GoodIn wsX8_pass (wsV RX8 152 RX8 yX8_lateBy wsX8_lateBy) := goodIn_app (goodIn_of _ (by decide +kernel)) ggX8_pass_X8_lateBy
set_option maxRecDepth 20000 in
theorem ggX8_pass_X8_takes : GoodIn wsX8_pass wsX8_takes := goodIn_r _ [49, 3, 27, 28, 29, 7, 30, 31, 32, 33, 50, 51, 52, 53, 54, 55, 56, 57, 58, 59, 60, 61, 62, 63, 64, 65, 66, 67, 68, 69, 70, 71] (by decide +kernel) (by decide +kernel)
set_option maxRecDepth 20000 in
theorem gX8_pass_X8_takes : GoodIn wsX8_pass (wsV RX8 155 RX8 yX8_takes wsX8_takes) := goodIn_app (goodIn_of _ (by decide +kernel)) ggX8_pass_X8_takes
theorem dX8_pass_0 : decode cX8_pass 0 = .ok (.iload_n 1, 1) := by decide +kernel
theorem dX8_pass_1 : decode cX8_pass 1 = .ok (.i2l, 1) := by decide +kernel
theorem dX8_pass_2 : decode cX8_pass 2 = .ok (.lconst 1, 1) := by decide +kernel
theorem dX8_pass_3 : decode cX8_pass 3 = .ok (.ldc2_w 113, 3) := by decide +kernel
theorem dX8_pass_6 : decode cX8_pass 6 = .ok (.invokestatic 30, 3) := by decide +kernel
theorem dX8_pass_9 : decode cX8_pass 9 = .ok (.ifCond .ne 6, 3) := by decide +kernel
theorem dX8_pass_12 : decode cX8_pass 12 = .ok (.ldc 61, 2) := by decide +kernel
theorem dX8_pass_14 : decode cX8_pass 14 = .ok (.ireturn, 1) := by decide +kernel
theorem dX8_pass_15 : decode cX8_pass 15 = .ok (.aload_n 0, 1) := by decide +kernel
theorem dX8_pass_16 : decode cX8_pass 16 = .ok (.getfield 7, 3) := by decide +kernel
theorem dX8_pass_19 : decode cX8_pass 19 = .ok (.iconst 0, 1) := by decide +kernel
theorem dX8_pass_20 : decode cX8_pass 20 = .ok (.iaload, 1) := by decide +kernel
theorem dX8_pass_21 : decode cX8_pass 21 = .ok (.iload_n 1, 1) := by decide +kernel
theorem dX8_pass_22 : decode cX8_pass 22 = .ok (.iadd, 1) := by decide +kernel
theorem dX8_pass_23 : decode cX8_pass 23 = .ok (.sipush 400, 3) := by decide +kernel
theorem dX8_pass_26 : decode cX8_pass 26 = .ok (.if_icmp .le 6, 3) := by decide +kernel
theorem dX8_pass_29 : decode cX8_pass 29 = .ok (.ldc 45, 2) := by decide +kernel
theorem dX8_pass_31 : decode cX8_pass 31 = .ok (.ireturn, 1) := by decide +kernel
theorem dX8_pass_32 : decode cX8_pass 32 = .ok (.aload_n 0, 1) := by decide +kernel
theorem dX8_pass_33 : decode cX8_pass 33 = .ok (.invokevirtual 46, 3) := by decide +kernel
theorem dX8_pass_36 : decode cX8_pass 36 = .ok (.iconst 0, 1) := by decide +kernel
theorem dX8_pass_37 : decode cX8_pass 37 = .ok (.istore_n 2, 1) := by decide +kernel
theorem dX8_pass_38 : decode cX8_pass 38 = .ok (.iconst 0, 1) := by decide +kernel
theorem dX8_pass_39 : decode cX8_pass 39 = .ok (.istore_n 3, 1) := by decide +kernel
theorem dX8_pass_40 : decode cX8_pass 40 = .ok (.iconst 0, 1) := by decide +kernel
theorem dX8_pass_41 : decode cX8_pass 41 = .ok (.istore 4, 2) := by decide +kernel
theorem dX8_pass_43 : decode cX8_pass 43 = .ok (.iload 4, 2) := by decide +kernel
theorem dX8_pass_45 : decode cX8_pass 45 = .ok (.iload_n 1, 1) := by decide +kernel
theorem dX8_pass_46 : decode cX8_pass 46 = .ok (.if_icmp .ge 78, 3) := by decide +kernel
theorem dX8_pass_49 : decode cX8_pass 49 = .ok (.iload_n 2, 1) := by decide +kernel
theorem dX8_pass_50 : decode cX8_pass 50 = .ok (.aload_n 0, 1) := by decide +kernel
theorem dX8_pass_51 : decode cX8_pass 51 = .ok (.invokevirtual 148, 3) := by decide +kernel
theorem dX8_pass_54 : decode cX8_pass 54 = .ok (.iadd, 1) := by decide +kernel
theorem dX8_pass_55 : decode cX8_pass 55 = .ok (.istore_n 2, 1) := by decide +kernel
theorem dX8_pass_56 : decode cX8_pass 56 = .ok (.aload_n 0, 1) := by decide +kernel
theorem dX8_pass_57 : decode cX8_pass 57 = .ok (.getfield 7, 3) := by decide +kernel
theorem dX8_pass_60 : decode cX8_pass 60 = .ok (.iconst 0, 1) := by decide +kernel
theorem dX8_pass_61 : decode cX8_pass 61 = .ok (.dup2, 1) := by decide +kernel
theorem dX8_pass_62 : decode cX8_pass 62 = .ok (.iaload, 1) := by decide +kernel
theorem dX8_pass_63 : decode cX8_pass 63 = .ok (.iconst 1, 1) := by decide +kernel
theorem dX8_pass_64 : decode cX8_pass 64 = .ok (.iadd, 1) := by decide +kernel
theorem dX8_pass_65 : decode cX8_pass 65 = .ok (.iastore, 1) := by decide +kernel
theorem dX8_pass_66 : decode cX8_pass 66 = .ok (.iconst 0, 1) := by decide +kernel
theorem dX8_pass_67 : decode cX8_pass 67 = .ok (.istore 5, 2) := by decide +kernel
theorem dX8_pass_69 : decode cX8_pass 69 = .ok (.iload 5, 2) := by decide +kernel
theorem dX8_pass_71 : decode cX8_pass 71 = .ok (.bipush 6, 2) := by decide +kernel
theorem dX8_pass_73 : decode cX8_pass 73 = .ok (.if_icmp .ge 45, 3) := by decide +kernel
theorem dX8_pass_76 : decode cX8_pass 76 = .ok (.aload_n 0, 1) := by decide +kernel
theorem dX8_pass_77 : decode cX8_pass 77 = .ok (.iload 5, 2) := by decide +kernel
theorem dX8_pass_79 : decode cX8_pass 79 = .ok (.invokevirtual 152, 3) := by decide +kernel
theorem dX8_pass_82 : decode cX8_pass 82 = .ok (.ifCond .le 30, 3) := by decide +kernel
theorem dX8_pass_85 : decode cX8_pass 85 = .ok (.iload_n 3, 1) := by decide +kernel
theorem dX8_pass_86 : decode cX8_pass 86 = .ok (.aload_n 0, 1) := by decide +kernel
theorem dX8_pass_87 : decode cX8_pass 87 = .ok (.aload_n 0, 1) := by decide +kernel
theorem dX8_pass_88 : decode cX8_pass 88 = .ok (.getfield 7, 3) := by decide +kernel
theorem dX8_pass_91 : decode cX8_pass 91 = .ok (.bipush 40, 2) := by decide +kernel
theorem dX8_pass_93 : decode cX8_pass 93 = .ok (.iconst 2, 1) := by decide +kernel
theorem dX8_pass_94 : decode cX8_pass 94 = .ok (.iload 5, 2) := by decide +kernel
theorem dX8_pass_96 : decode cX8_pass 96 = .ok (.imul, 1) := by decide +kernel
theorem dX8_pass_97 : decode cX8_pass 97 = .ok (.iadd, 1) := by decide +kernel
theorem dX8_pass_98 : decode cX8_pass 98 = .ok (.iaload, 1) := by decide +kernel
theorem dX8_pass_99 : decode cX8_pass 99 = .ok (.aload_n 0, 1) := by decide +kernel
theorem dX8_pass_100 : decode cX8_pass 100 = .ok (.getfield 7, 3) := by decide +kernel
theorem dX8_pass_103 : decode cX8_pass 103 = .ok (.bipush 7, 2) := by decide +kernel
theorem dX8_pass_105 : decode cX8_pass 105 = .ok (.iaload, 1) := by decide +kernel
theorem dX8_pass_106 : decode cX8_pass 106 = .ok (.iconst 5, 1) := by decide +kernel
theorem dX8_pass_107 : decode cX8_pass 107 = .ok (.invokevirtual 155, 3) := by decide +kernel
theorem dX8_pass_110 : decode cX8_pass 110 = .ok (.iadd, 1) := by decide +kernel
theorem dX8_pass_111 : decode cX8_pass 111 = .ok (.istore_n 3, 1) := by decide +kernel
theorem dX8_pass_112 : decode cX8_pass 112 = .ok (.iinc 5 1, 3) := by decide +kernel
theorem dX8_pass_115 : decode cX8_pass 115 = .ok (.goto (-46), 3) := by decide +kernel
theorem dX8_pass_118 : decode cX8_pass 118 = .ok (.iinc 4 1, 3) := by decide +kernel
theorem dX8_pass_121 : decode cX8_pass 121 = .ok (.goto (-78), 3) := by decide +kernel
theorem dX8_pass_124 : decode cX8_pass 124 = .ok (.iload_n 3, 1) := by decide +kernel
theorem dX8_pass_125 : decode cX8_pass 125 = .ok (.ifCond .ge 7, 3) := by decide +kernel
theorem dX8_pass_128 : decode cX8_pass 128 = .ok (.iconst 0, 1) := by decide +kernel
theorem dX8_pass_129 : decode cX8_pass 129 = .ok (.goto 4, 3) := by decide +kernel
theorem dX8_pass_132 : decode cX8_pass 132 = .ok (.iload_n 2, 1) := by decide +kernel
theorem dX8_pass_133 : decode cX8_pass 133 = .ok (.ireturn, 1) := by decide +kernel
set_option maxRecDepth 20000 in
theorem ggX8_countSessions_X8_of : GoodIn wsX8_countSessions wsX8_of := goodIn_r _ [6, 1, 7, 8, 5, 9, 17, 18, 19, 20, 21, 22, 23, 24, 25, 26, 27, 28, 29, 30, 31, 32, 33, 34] (by decide +kernel) (by decide +kernel)
set_option maxRecDepth 20000 in
theorem gX8_countSessions_X8_of : GoodIn wsX8_countSessions (wsV RX8 42 RX8 yX8_of wsX8_of) := goodIn_app (goodIn_of _ (by decide +kernel)) ggX8_countSessions_X8_of
set_option maxRecDepth 20000 in
theorem ggX8_countSessions_X8_roomsIn : GoodIn wsX8_countSessions wsX8_roomsIn := goodIn_r _ [12] (by decide +kernel) (by decide +kernel)
set_option maxRecDepth 20000 in
theorem gX8_countSessions_X8_roomsIn : GoodIn wsX8_countSessions (va_wsS RX8 158 yX8_roomsIn wsX8_roomsIn) := goodIn_app (goodIn_of _ (by decide +kernel)) ggX8_countSessions_X8_roomsIn
set_option maxRecDepth 20000 in
theorem ggX8_countSessions_X8_manyOf : GoodIn wsX8_countSessions wsX8_manyOf := goodIn_r _ [16, 2, 3, 4, 5, 6, 1, 7, 8, 9, 17, 18, 19, 20, 21, 22, 23, 24, 25, 26, 27, 28, 29, 30, 31, 32, 33, 34] (by decide +kernel) (by decide +kernel)
set_option maxRecDepth 20000 in
theorem gX8_countSessions_X8_manyOf : GoodIn wsX8_countSessions (wsV RX8 49 RX8 yX8_manyOf wsX8_manyOf) := goodIn_app (goodIn_of _ (by decide +kernel)) ggX8_countSessions_X8_manyOf
theorem dX8_countSessions_0 : decode cX8_countSessions 0 = .ok (.iconst 0, 1) := by decide +kernel
theorem dX8_countSessions_1 : decode cX8_countSessions 1 = .ok (.istore_n 2, 1) := by decide +kernel
theorem dX8_countSessions_2 : decode cX8_countSessions 2 = .ok (.iconst 0, 1) := by decide +kernel
theorem dX8_countSessions_3 : decode cX8_countSessions 3 = .ok (.istore_n 3, 1) := by decide +kernel
theorem dX8_countSessions_4 : decode cX8_countSessions 4 = .ok (.iload_n 3, 1) := by decide +kernel
theorem dX8_countSessions_5 : decode cX8_countSessions 5 = .ok (.aload_n 0, 1) := by decide +kernel
theorem dX8_countSessions_6 : decode cX8_countSessions 6 = .ok (.getfield 7, 3) := by decide +kernel
theorem dX8_countSessions_9 : decode cX8_countSessions 9 = .ok (.bipush 10, 2) := by decide +kernel
theorem dX8_countSessions_11 : decode cX8_countSessions 11 = .ok (.iaload, 1) := by decide +kernel
theorem dX8_countSessions_12 : decode cX8_countSessions 12 = .ok (.if_icmp .ge 66, 3) := by decide +kernel
theorem dX8_countSessions_15 : decode cX8_countSessions 15 = .ok (.aload_n 0, 1) := by decide +kernel
theorem dX8_countSessions_16 : decode cX8_countSessions 16 = .ok (.iload_n 3, 1) := by decide +kernel
theorem dX8_countSessions_17 : decode cX8_countSessions 17 = .ok (.iconst 1, 1) := by decide +kernel
theorem dX8_countSessions_18 : decode cX8_countSessions 18 = .ok (.invokevirtual 42, 3) := by decide +kernel
theorem dX8_countSessions_21 : decode cX8_countSessions 21 = .ok (.invokestatic 158, 3) := by decide +kernel
theorem dX8_countSessions_24 : decode cX8_countSessions 24 = .ok (.aload_n 0, 1) := by decide +kernel
theorem dX8_countSessions_25 : decode cX8_countSessions 25 = .ok (.iload_n 3, 1) := by decide +kernel
theorem dX8_countSessions_26 : decode cX8_countSessions 26 = .ok (.iconst 3, 1) := by decide +kernel
theorem dX8_countSessions_27 : decode cX8_countSessions 27 = .ok (.invokevirtual 42, 3) := by decide +kernel
theorem dX8_countSessions_30 : decode cX8_countSessions 30 = .ok (.aload_n 0, 1) := by decide +kernel
theorem dX8_countSessions_31 : decode cX8_countSessions 31 = .ok (.iload_n 3, 1) := by decide +kernel
theorem dX8_countSessions_32 : decode cX8_countSessions 32 = .ok (.iconst 2, 1) := by decide +kernel
theorem dX8_countSessions_33 : decode cX8_countSessions 33 = .ok (.invokevirtual 42, 3) := by decide +kernel
theorem dX8_countSessions_36 : decode cX8_countSessions 36 = .ok (.isub, 1) := by decide +kernel
theorem dX8_countSessions_37 : decode cX8_countSessions 37 = .ok (.imul, 1) := by decide +kernel
theorem dX8_countSessions_38 : decode cX8_countSessions 38 = .ok (.istore 4, 2) := by decide +kernel
theorem dX8_countSessions_40 : decode cX8_countSessions 40 = .ok (.iload_n 2, 1) := by decide +kernel
theorem dX8_countSessions_41 : decode cX8_countSessions 41 = .ok (.iload_n 1, 1) := by decide +kernel
theorem dX8_countSessions_42 : decode cX8_countSessions 42 = .ok (.ifCond .eq 15, 3) := by decide +kernel
theorem dX8_countSessions_45 : decode cX8_countSessions 45 = .ok (.aload_n 0, 1) := by decide +kernel
theorem dX8_countSessions_46 : decode cX8_countSessions 46 = .ok (.iload_n 3, 1) := by decide +kernel
theorem dX8_countSessions_47 : decode cX8_countSessions 47 = .ok (.iconst 1, 1) := by decide +kernel
theorem dX8_countSessions_48 : decode cX8_countSessions 48 = .ok (.invokevirtual 49, 3) := by decide +kernel
theorem dX8_countSessions_51 : decode cX8_countSessions 51 = .ok (.iload 4, 2) := by decide +kernel
theorem dX8_countSessions_53 : decode cX8_countSessions 53 = .ok (.imul, 1) := by decide +kernel
theorem dX8_countSessions_54 : decode cX8_countSessions 54 = .ok (.goto 16, 3) := by decide +kernel
theorem dX8_countSessions_57 : decode cX8_countSessions 57 = .ok (.aload_n 0, 1) := by decide +kernel
theorem dX8_countSessions_58 : decode cX8_countSessions 58 = .ok (.iload_n 3, 1) := by decide +kernel
theorem dX8_countSessions_59 : decode cX8_countSessions 59 = .ok (.iconst 4, 1) := by decide +kernel
theorem dX8_countSessions_60 : decode cX8_countSessions 60 = .ok (.invokevirtual 42, 3) := by decide +kernel
theorem dX8_countSessions_63 : decode cX8_countSessions 63 = .ok (.aload_n 0, 1) := by decide +kernel
theorem dX8_countSessions_64 : decode cX8_countSessions 64 = .ok (.iload_n 3, 1) := by decide +kernel
theorem dX8_countSessions_65 : decode cX8_countSessions 65 = .ok (.iconst 2, 1) := by decide +kernel
theorem dX8_countSessions_66 : decode cX8_countSessions 66 = .ok (.invokevirtual 49, 3) := by decide +kernel
theorem dX8_countSessions_69 : decode cX8_countSessions 69 = .ok (.isub, 1) := by decide +kernel
theorem dX8_countSessions_70 : decode cX8_countSessions 70 = .ok (.iadd, 1) := by decide +kernel
theorem dX8_countSessions_71 : decode cX8_countSessions 71 = .ok (.istore_n 2, 1) := by decide +kernel
theorem dX8_countSessions_72 : decode cX8_countSessions 72 = .ok (.iinc 3 1, 3) := by decide +kernel
theorem dX8_countSessions_75 : decode cX8_countSessions 75 = .ok (.goto (-71), 3) := by decide +kernel
theorem dX8_countSessions_78 : decode cX8_countSessions 78 = .ok (.iload_n 2, 1) := by decide +kernel
theorem dX8_countSessions_79 : decode cX8_countSessions 79 = .ok (.ireturn, 1) := by decide +kernel
set_option maxRecDepth 20000 in
theorem ggX8_countKeys_X8_lateBy : GoodIn wsX8_countKeys wsX8_lateBy := goodIn_r _ [6, 1, 7, 8, 9, 10, 11, 12, 13, 14, 15, 16, 17, 18, 19, 20, 21, 22, 23, 24] (by decide +kernel) (by decide +kernel)
set_option maxRecDepth 20000 in
theorem gX8_countKeys_X8_lateBy : GoodIn wsX8_countKeys (wsV RX8 152 RX8 yX8_lateBy wsX8_lateBy) := goodIn_app (goodIn_of _ (by decide +kernel)) ggX8_countKeys_X8_lateBy
theorem dX8_countKeys_0 : decode cX8_countKeys 0 = .ok (.iconst 0, 1) := by decide +kernel
theorem dX8_countKeys_1 : decode cX8_countKeys 1 = .ok (.istore_n 2, 1) := by decide +kernel
theorem dX8_countKeys_2 : decode cX8_countKeys 2 = .ok (.iconst 0, 1) := by decide +kernel
theorem dX8_countKeys_3 : decode cX8_countKeys 3 = .ok (.istore_n 3, 1) := by decide +kernel
theorem dX8_countKeys_4 : decode cX8_countKeys 4 = .ok (.iload_n 3, 1) := by decide +kernel
theorem dX8_countKeys_5 : decode cX8_countKeys 5 = .ok (.bipush 6, 2) := by decide +kernel
theorem dX8_countKeys_7 : decode cX8_countKeys 7 = .ok (.if_icmp .ge 64, 3) := by decide +kernel
theorem dX8_countKeys_10 : decode cX8_countKeys 10 = .ok (.iload_n 1, 1) := by decide +kernel
theorem dX8_countKeys_11 : decode cX8_countKeys 11 = .ok (.ifCond .eq 19, 3) := by decide +kernel
theorem dX8_countKeys_14 : decode cX8_countKeys 14 = .ok (.aload_n 0, 1) := by decide +kernel
theorem dX8_countKeys_15 : decode cX8_countKeys 15 = .ok (.iload_n 3, 1) := by decide +kernel
theorem dX8_countKeys_16 : decode cX8_countKeys 16 = .ok (.invokevirtual 152, 3) := by decide +kernel
theorem dX8_countKeys_19 : decode cX8_countKeys 19 = .ok (.ifCond .le 7, 3) := by decide +kernel
theorem dX8_countKeys_22 : decode cX8_countKeys 22 = .ok (.iconst 1, 1) := by decide +kernel
theorem dX8_countKeys_23 : decode cX8_countKeys 23 = .ok (.goto 27, 3) := by decide +kernel
theorem dX8_countKeys_26 : decode cX8_countKeys 26 = .ok (.iconst 0, 1) := by decide +kernel
theorem dX8_countKeys_27 : decode cX8_countKeys 27 = .ok (.goto 23, 3) := by decide +kernel
theorem dX8_countKeys_30 : decode cX8_countKeys 30 = .ok (.aload_n 0, 1) := by decide +kernel
theorem dX8_countKeys_31 : decode cX8_countKeys 31 = .ok (.getfield 7, 3) := by decide +kernel
theorem dX8_countKeys_34 : decode cX8_countKeys 34 = .ok (.bipush 40, 2) := by decide +kernel
theorem dX8_countKeys_36 : decode cX8_countKeys 36 = .ok (.iconst 2, 1) := by decide +kernel
theorem dX8_countKeys_37 : decode cX8_countKeys 37 = .ok (.iload_n 3, 1) := by decide +kernel
theorem dX8_countKeys_38 : decode cX8_countKeys 38 = .ok (.imul, 1) := by decide +kernel
theorem dX8_countKeys_39 : decode cX8_countKeys 39 = .ok (.iadd, 1) := by decide +kernel
theorem dX8_countKeys_40 : decode cX8_countKeys 40 = .ok (.iaload, 1) := by decide +kernel
theorem dX8_countKeys_41 : decode cX8_countKeys 41 = .ok (.iconst (-1), 1) := by decide +kernel
theorem dX8_countKeys_42 : decode cX8_countKeys 42 = .ok (.if_icmp .ne 7, 3) := by decide +kernel
theorem dX8_countKeys_45 : decode cX8_countKeys 45 = .ok (.iconst 1, 1) := by decide +kernel
theorem dX8_countKeys_46 : decode cX8_countKeys 46 = .ok (.goto 4, 3) := by decide +kernel
theorem dX8_countKeys_49 : decode cX8_countKeys 49 = .ok (.iconst 0, 1) := by decide +kernel
theorem dX8_countKeys_50 : decode cX8_countKeys 50 = .ok (.istore 4, 2) := by decide +kernel
theorem dX8_countKeys_52 : decode cX8_countKeys 52 = .ok (.iload_n 2, 1) := by decide +kernel
theorem dX8_countKeys_53 : decode cX8_countKeys 53 = .ok (.iload 4, 2) := by decide +kernel
theorem dX8_countKeys_55 : decode cX8_countKeys 55 = .ok (.ifCond .eq 7, 3) := by decide +kernel
theorem dX8_countKeys_58 : decode cX8_countKeys 58 = .ok (.iconst 1, 1) := by decide +kernel
theorem dX8_countKeys_59 : decode cX8_countKeys 59 = .ok (.goto 4, 3) := by decide +kernel
theorem dX8_countKeys_62 : decode cX8_countKeys 62 = .ok (.iconst 0, 1) := by decide +kernel
theorem dX8_countKeys_63 : decode cX8_countKeys 63 = .ok (.iadd, 1) := by decide +kernel
theorem dX8_countKeys_64 : decode cX8_countKeys 64 = .ok (.istore_n 2, 1) := by decide +kernel
theorem dX8_countKeys_65 : decode cX8_countKeys 65 = .ok (.iinc 3 1, 3) := by decide +kernel
theorem dX8_countKeys_68 : decode cX8_countKeys 68 = .ok (.goto (-64), 3) := by decide +kernel
theorem dX8_countKeys_71 : decode cX8_countKeys 71 = .ok (.iload_n 2, 1) := by decide +kernel
theorem dX8_countKeys_72 : decode cX8_countKeys 72 = .ok (.ireturn, 1) := by decide +kernel
set_option maxRecDepth 20000 in
theorem ggX8_count_X8_in : GoodIn wsX8_count wsX8_in := goodIn_r _ [12] (by decide +kernel) (by decide +kernel)
set_option maxRecDepth 20000 in
theorem gX8_count_X8_in : GoodIn wsX8_count (va_wsS RX8 30 yX8_in wsX8_in) := goodIn_app (goodIn_of _ (by decide +kernel)) ggX8_count_X8_in
set_option maxRecDepth 20000 in
theorem ggX8_count_X8_countSessions : GoodIn wsX8_count wsX8_countSessions := goodIn_r _ [16, 3, 17, 18, 19, 11, 20, 21, 22, 23, 24, 25, 26, 27, 28, 29, 30, 39, 40, 41, 42, 43, 44, 45, 46, 47, 48, 49, 50, 51, 52, 53, 54, 55, 56] (by decide +kernel) (by decide +kernel)
set_option maxRecDepth 20000 in
theorem gX8_count_X8_countSessions : GoodIn wsX8_count (wsV RX8 167 RX8 yX8_countSessions wsX8_countSessions) := goodIn_app (goodIn_of _ (by decide +kernel)) ggX8_count_X8_countSessions
set_option maxRecDepth 20000 in
theorem ggX8_count_X8_countKeys : GoodIn wsX8_count wsX8_countKeys := goodIn_r _ [34, 3, 35, 36, 37, 11, 38, 39, 40, 41, 42, 43, 44, 45, 46, 47, 48, 49, 50, 51, 52, 53, 54, 55, 56] (by decide +kernel) (by decide +kernel)
set_option maxRecDepth 20000 in
theorem gX8_count_X8_countKeys : GoodIn wsX8_count (wsV RX8 171 RX8 yX8_countKeys wsX8_countKeys) := goodIn_app (goodIn_of _ (by decide +kernel)) ggX8_count_X8_countKeys
theorem dX8_count_0 : decode cX8_count 0 = .ok (.iload_n 1, 1) := by decide +kernel
theorem dX8_count_1 : decode cX8_count 1 = .ok (.i2l, 1) := by decide +kernel
theorem dX8_count_2 : decode cX8_count 2 = .ok (.ldc2_w 161, 3) := by decide +kernel
theorem dX8_count_5 : decode cX8_count 5 = .ok (.ldc2_w 163, 3) := by decide +kernel
theorem dX8_count_8 : decode cX8_count 8 = .ok (.invokestatic 30, 3) := by decide +kernel
theorem dX8_count_11 : decode cX8_count 11 = .ok (.ifCond .eq 15, 3) := by decide +kernel
theorem dX8_count_14 : decode cX8_count 14 = .ok (.aload_n 0, 1) := by decide +kernel
theorem dX8_count_15 : decode cX8_count 15 = .ok (.getfield 7, 3) := by decide +kernel
theorem dX8_count_18 : decode cX8_count 18 = .ok (.iconst 1, 1) := by decide +kernel
theorem dX8_count_19 : decode cX8_count 19 = .ok (.iload_n 1, 1) := by decide +kernel
theorem dX8_count_20 : decode cX8_count 20 = .ok (.iadd, 1) := by decide +kernel
theorem dX8_count_21 : decode cX8_count 21 = .ok (.bipush 10, 2) := by decide +kernel
theorem dX8_count_23 : decode cX8_count 23 = .ok (.isub, 1) := by decide +kernel
theorem dX8_count_24 : decode cX8_count 24 = .ok (.iaload, 1) := by decide +kernel
theorem dX8_count_25 : decode cX8_count 25 = .ok (.ireturn, 1) := by decide +kernel
theorem dX8_count_26 : decode cX8_count 26 = .ok (.iload_n 1, 1) := by decide +kernel
theorem dX8_count_27 : decode cX8_count 27 = .ok (.i2l, 1) := by decide +kernel
theorem dX8_count_28 : decode cX8_count 28 = .ok (.ldc2_w 88, 3) := by decide +kernel
theorem dX8_count_31 : decode cX8_count 31 = .ok (.ldc2_w 165, 3) := by decide +kernel
theorem dX8_count_34 : decode cX8_count 34 = .ok (.invokestatic 30, 3) := by decide +kernel
theorem dX8_count_37 : decode cX8_count 37 = .ok (.ifCond .eq 16, 3) := by decide +kernel
theorem dX8_count_40 : decode cX8_count 40 = .ok (.aload_n 0, 1) := by decide +kernel
theorem dX8_count_41 : decode cX8_count 41 = .ok (.getfield 7, 3) := by decide +kernel
theorem dX8_count_44 : decode cX8_count 44 = .ok (.bipush 11, 2) := by decide +kernel
theorem dX8_count_46 : decode cX8_count 46 = .ok (.iload_n 1, 1) := by decide +kernel
theorem dX8_count_47 : decode cX8_count 47 = .ok (.iadd, 1) := by decide +kernel
theorem dX8_count_48 : decode cX8_count 48 = .ok (.bipush 20, 2) := by decide +kernel
theorem dX8_count_50 : decode cX8_count 50 = .ok (.isub, 1) := by decide +kernel
theorem dX8_count_51 : decode cX8_count 51 = .ok (.iaload, 1) := by decide +kernel
theorem dX8_count_52 : decode cX8_count 52 = .ok (.ireturn, 1) := by decide +kernel
theorem dX8_count_53 : decode cX8_count 53 = .ok (.iload_n 1, 1) := by decide +kernel
theorem dX8_count_54 : decode cX8_count 54 = .ok (.tableswitch 107 0 8 #[50, 57, 65, 73, 79, 85, 91, 97, 102], 50) := by decide +kernel
theorem dX8_count_104 : decode cX8_count 104 = .ok (.aload_n 0, 1) := by decide +kernel
theorem dX8_count_105 : decode cX8_count 105 = .ok (.getfield 7, 3) := by decide +kernel
theorem dX8_count_108 : decode cX8_count 108 = .ok (.iconst 0, 1) := by decide +kernel
theorem dX8_count_109 : decode cX8_count 109 = .ok (.iaload, 1) := by decide +kernel
theorem dX8_count_110 : decode cX8_count 110 = .ok (.ireturn, 1) := by decide +kernel
theorem dX8_count_111 : decode cX8_count 111 = .ok (.aload_n 0, 1) := by decide +kernel
theorem dX8_count_112 : decode cX8_count 112 = .ok (.getfield 7, 3) := by decide +kernel
theorem dX8_count_115 : decode cX8_count 115 = .ok (.bipush 9, 2) := by decide +kernel
theorem dX8_count_117 : decode cX8_count 117 = .ok (.iaload, 1) := by decide +kernel
theorem dX8_count_118 : decode cX8_count 118 = .ok (.ireturn, 1) := by decide +kernel
theorem dX8_count_119 : decode cX8_count 119 = .ok (.aload_n 0, 1) := by decide +kernel
theorem dX8_count_120 : decode cX8_count 120 = .ok (.getfield 7, 3) := by decide +kernel
theorem dX8_count_123 : decode cX8_count 123 = .ok (.bipush 10, 2) := by decide +kernel
theorem dX8_count_125 : decode cX8_count 125 = .ok (.iaload, 1) := by decide +kernel
theorem dX8_count_126 : decode cX8_count 126 = .ok (.ireturn, 1) := by decide +kernel
theorem dX8_count_127 : decode cX8_count 127 = .ok (.aload_n 0, 1) := by decide +kernel
theorem dX8_count_128 : decode cX8_count 128 = .ok (.iconst 0, 1) := by decide +kernel
theorem dX8_count_129 : decode cX8_count 129 = .ok (.invokevirtual 167, 3) := by decide +kernel
theorem dX8_count_132 : decode cX8_count 132 = .ok (.ireturn, 1) := by decide +kernel
theorem dX8_count_133 : decode cX8_count 133 = .ok (.aload_n 0, 1) := by decide +kernel
theorem dX8_count_134 : decode cX8_count 134 = .ok (.iconst 0, 1) := by decide +kernel
theorem dX8_count_135 : decode cX8_count 135 = .ok (.invokevirtual 171, 3) := by decide +kernel
theorem dX8_count_138 : decode cX8_count 138 = .ok (.ireturn, 1) := by decide +kernel
theorem dX8_count_139 : decode cX8_count 139 = .ok (.aload_n 0, 1) := by decide +kernel
theorem dX8_count_140 : decode cX8_count 140 = .ok (.iconst 1, 1) := by decide +kernel
theorem dX8_count_141 : decode cX8_count 141 = .ok (.invokevirtual 171, 3) := by decide +kernel
theorem dX8_count_144 : decode cX8_count 144 = .ok (.ireturn, 1) := by decide +kernel
theorem dX8_count_145 : decode cX8_count 145 = .ok (.aload_n 0, 1) := by decide +kernel
theorem dX8_count_146 : decode cX8_count 146 = .ok (.iconst 1, 1) := by decide +kernel
theorem dX8_count_147 : decode cX8_count 147 = .ok (.invokevirtual 167, 3) := by decide +kernel
theorem dX8_count_150 : decode cX8_count 150 = .ok (.ireturn, 1) := by decide +kernel
theorem dX8_count_151 : decode cX8_count 151 = .ok (.aload_n 0, 1) := by decide +kernel
theorem dX8_count_152 : decode cX8_count 152 = .ok (.getfield 27, 3) := by decide +kernel
theorem dX8_count_155 : decode cX8_count 155 = .ok (.ireturn, 1) := by decide +kernel
theorem dX8_count_156 : decode cX8_count 156 = .ok (.aload_n 0, 1) := by decide +kernel
theorem dX8_count_157 : decode cX8_count 157 = .ok (.getfield 174, 3) := by decide +kernel
theorem dX8_count_160 : decode cX8_count 160 = .ok (.ireturn, 1) := by decide +kernel
theorem dX8_count_161 : decode cX8_count 161 = .ok (.ldc 61, 2) := by decide +kernel
theorem dX8_count_163 : decode cX8_count 163 = .ok (.ireturn, 1) := by decide +kernel
theorem dX8_undo_0 : decode cX8_undo 0 = .ok (.aload_n 0, 1) := by decide +kernel
theorem dX8_undo_1 : decode cX8_undo 1 = .ok (.getfield 27, 3) := by decide +kernel
theorem dX8_undo_4 : decode cX8_undo 4 = .ok (.ifCond .ne 6, 3) := by decide +kernel
theorem dX8_undo_7 : decode cX8_undo 7 = .ok (.ldc 119, 2) := by decide +kernel
theorem dX8_undo_9 : decode cX8_undo 9 = .ok (.ireturn, 1) := by decide +kernel
theorem dX8_undo_10 : decode cX8_undo 10 = .ok (.aload_n 0, 1) := by decide +kernel
theorem dX8_undo_11 : decode cX8_undo 11 = .ok (.dup, 1) := by decide +kernel
theorem dX8_undo_12 : decode cX8_undo 12 = .ok (.getfield 27, 3) := by decide +kernel
theorem dX8_undo_15 : decode cX8_undo 15 = .ok (.iconst 1, 1) := by decide +kernel
theorem dX8_undo_16 : decode cX8_undo 16 = .ok (.isub, 1) := by decide +kernel
theorem dX8_undo_17 : decode cX8_undo 17 = .ok (.putfield 27, 3) := by decide +kernel
theorem dX8_undo_20 : decode cX8_undo 20 = .ok (.iconst 0, 1) := by decide +kernel
theorem dX8_undo_21 : decode cX8_undo 21 = .ok (.istore_n 1, 1) := by decide +kernel
theorem dX8_undo_22 : decode cX8_undo 22 = .ok (.iload_n 1, 1) := by decide +kernel
theorem dX8_undo_23 : decode cX8_undo 23 = .ok (.sipush 820, 3) := by decide +kernel
theorem dX8_undo_26 : decode cX8_undo 26 = .ok (.if_icmp .ge 30, 3) := by decide +kernel
theorem dX8_undo_29 : decode cX8_undo 29 = .ok (.aload_n 0, 1) := by decide +kernel
theorem dX8_undo_30 : decode cX8_undo 30 = .ok (.getfield 7, 3) := by decide +kernel
theorem dX8_undo_33 : decode cX8_undo 33 = .ok (.iload_n 1, 1) := by decide +kernel
theorem dX8_undo_34 : decode cX8_undo 34 = .ok (.aload_n 0, 1) := by decide +kernel
theorem dX8_undo_35 : decode cX8_undo 35 = .ok (.getfield 13, 3) := by decide +kernel
theorem dX8_undo_38 : decode cX8_undo 38 = .ok (.sipush 820, 3) := by decide +kernel
theorem dX8_undo_41 : decode cX8_undo 41 = .ok (.aload_n 0, 1) := by decide +kernel
theorem dX8_undo_42 : decode cX8_undo 42 = .ok (.getfield 27, 3) := by decide +kernel
theorem dX8_undo_45 : decode cX8_undo 45 = .ok (.imul, 1) := by decide +kernel
theorem dX8_undo_46 : decode cX8_undo 46 = .ok (.iload_n 1, 1) := by decide +kernel
theorem dX8_undo_47 : decode cX8_undo 47 = .ok (.iadd, 1) := by decide +kernel
theorem dX8_undo_48 : decode cX8_undo 48 = .ok (.iaload, 1) := by decide +kernel
theorem dX8_undo_49 : decode cX8_undo 49 = .ok (.iastore, 1) := by decide +kernel
theorem dX8_undo_50 : decode cX8_undo 50 = .ok (.iinc 1 1, 3) := by decide +kernel
theorem dX8_undo_53 : decode cX8_undo 53 = .ok (.goto (-31), 3) := by decide +kernel
theorem dX8_undo_56 : decode cX8_undo 56 = .ok (.aload_n 0, 1) := by decide +kernel
theorem dX8_undo_57 : decode cX8_undo 57 = .ok (.getfield 27, 3) := by decide +kernel
theorem dX8_undo_60 : decode cX8_undo 60 = .ok (.ireturn, 1) := by decide +kernel
set_option maxRecDepth 20000 in
theorem ggX8_isKey_X8_in : GoodIn wsX8_isKey wsX8_in := goodIn_r _ [5] (by decide +kernel) (by decide +kernel)
set_option maxRecDepth 20000 in
theorem gX8_isKey_X8_in : GoodIn wsX8_isKey (va_wsS RX8 30 yX8_in wsX8_in) := goodIn_app (goodIn_of _ (by decide +kernel)) ggX8_isKey_X8_in
theorem dX8_isKey_0 : decode cX8_isKey 0 = .ok (.iload_n 0, 1) := by decide +kernel
theorem dX8_isKey_1 : decode cX8_isKey 1 = .ok (.i2l, 1) := by decide +kernel
theorem dX8_isKey_2 : decode cX8_isKey 2 = .ok (.lconst 0, 1) := by decide +kernel
theorem dX8_isKey_3 : decode cX8_isKey 3 = .ok (.ldc2_w 177, 3) := by decide +kernel
theorem dX8_isKey_6 : decode cX8_isKey 6 = .ok (.invokestatic 30, 3) := by decide +kernel
theorem dX8_isKey_9 : decode cX8_isKey 9 = .ok (.ireturn, 1) := by decide +kernel
set_option maxRecDepth 20000 in
theorem ggX8_lastPlanned_X8_of : GoodIn wsX8_lastPlanned wsX8_of := goodIn_r _ [5, 6, 7, 8, 4, 9, 10, 11, 12, 13, 14, 15, 16, 17, 18, 19, 20, 21, 22, 23, 24, 25, 26, 27] (by decide +kernel) (by decide +kernel)
set_option maxRecDepth 20000 in
theorem gX8_lastPlanned_X8_of : GoodIn wsX8_lastPlanned (wsV RX8 42 RX8 yX8_of wsX8_of) := goodIn_app (goodIn_of _ (by decide +kernel)) ggX8_lastPlanned_X8_of
theorem dX8_lastPlanned_0 : decode cX8_lastPlanned 0 = .ok (.iconst (-1), 1) := by decide +kernel
theorem dX8_lastPlanned_1 : decode cX8_lastPlanned 1 = .ok (.istore_n 2, 1) := by decide +kernel
theorem dX8_lastPlanned_2 : decode cX8_lastPlanned 2 = .ok (.iconst 0, 1) := by decide +kernel
theorem dX8_lastPlanned_3 : decode cX8_lastPlanned 3 = .ok (.istore_n 3, 1) := by decide +kernel
theorem dX8_lastPlanned_4 : decode cX8_lastPlanned 4 = .ok (.iload_n 3, 1) := by decide +kernel
theorem dX8_lastPlanned_5 : decode cX8_lastPlanned 5 = .ok (.aload_n 0, 1) := by decide +kernel
theorem dX8_lastPlanned_6 : decode cX8_lastPlanned 6 = .ok (.iload_n 1, 1) := by decide +kernel
theorem dX8_lastPlanned_7 : decode cX8_lastPlanned 7 = .ok (.iconst 4, 1) := by decide +kernel
theorem dX8_lastPlanned_8 : decode cX8_lastPlanned 8 = .ok (.invokevirtual 42, 3) := by decide +kernel
theorem dX8_lastPlanned_11 : decode cX8_lastPlanned 11 = .ok (.if_icmp .ge 27, 3) := by decide +kernel
theorem dX8_lastPlanned_14 : decode cX8_lastPlanned 14 = .ok (.aload_n 0, 1) := by decide +kernel
theorem dX8_lastPlanned_15 : decode cX8_lastPlanned 15 = .ok (.iload_n 1, 1) := by decide +kernel
theorem dX8_lastPlanned_16 : decode cX8_lastPlanned 16 = .ok (.bipush 12, 2) := by decide +kernel
theorem dX8_lastPlanned_18 : decode cX8_lastPlanned 18 = .ok (.iload_n 3, 1) := by decide +kernel
theorem dX8_lastPlanned_19 : decode cX8_lastPlanned 19 = .ok (.iadd, 1) := by decide +kernel
theorem dX8_lastPlanned_20 : decode cX8_lastPlanned 20 = .ok (.invokevirtual 42, 3) := by decide +kernel
theorem dX8_lastPlanned_23 : decode cX8_lastPlanned 23 = .ok (.ifCond .ne 7, 3) := by decide +kernel
theorem dX8_lastPlanned_26 : decode cX8_lastPlanned 26 = .ok (.iload_n 3, 1) := by decide +kernel
theorem dX8_lastPlanned_27 : decode cX8_lastPlanned 27 = .ok (.goto 4, 3) := by decide +kernel
theorem dX8_lastPlanned_30 : decode cX8_lastPlanned 30 = .ok (.iload_n 2, 1) := by decide +kernel
theorem dX8_lastPlanned_31 : decode cX8_lastPlanned 31 = .ok (.istore_n 2, 1) := by decide +kernel
theorem dX8_lastPlanned_32 : decode cX8_lastPlanned 32 = .ok (.iinc 3 1, 3) := by decide +kernel
theorem dX8_lastPlanned_35 : decode cX8_lastPlanned 35 = .ok (.goto (-31), 3) := by decide +kernel
theorem dX8_lastPlanned_38 : decode cX8_lastPlanned 38 = .ok (.iload_n 2, 1) := by decide +kernel
theorem dX8_lastPlanned_39 : decode cX8_lastPlanned 39 = .ok (.ireturn, 1) := by decide +kernel
set_option maxRecDepth 20000 in
theorem ggX8_lend_X8_isKey : GoodIn wsX8_lend wsX8_isKey := goodIn_r _ [7, 8, 9, 10, 6, 11] (by decide +kernel) (by decide +kernel)
set_option maxRecDepth 20000 in
theorem gX8_lend_X8_isKey : GoodIn wsX8_lend (va_wsS RX8 179 yX8_isKey wsX8_isKey) := goodIn_app (goodIn_of _ (by decide +kernel)) ggX8_lend_X8_isKey
set_option maxRecDepth 20000 in
theorem ggX8_lend_X8_isHire : GoodIn wsX8_lend wsX8_isHire := goodIn_r _ [15, 2, 9, 10, 6, 11, 37, 38, 39, 40, 41, 42, 43, 44, 45, 46, 47, 48, 49, 50, 51, 52, 53, 54] (by decide +kernel) (by decide +kernel)
set_option maxRecDepth 20000 in
theorem gX8_lend_X8_isHire : GoodIn wsX8_lend (wsV RX8 38 RX8 yX8_isHire wsX8_isHire) := goodIn_app (goodIn_of _ (by decide +kernel)) ggX8_lend_X8_isHire
set_option maxRecDepth 20000 in
theorem ggX8_lend_X8_lastPlanned : GoodIn wsX8_lend wsX8_lastPlanned := goodIn_r _ [19, 20, 21, 22, 6, 23, 2, 24, 25, 26, 37, 38, 39, 40, 41, 42, 43, 44, 45, 46, 47, 48, 49, 50, 51, 52, 53, 54] (by decide +kernel) (by decide +kernel)
set_option maxRecDepth 20000 in
theorem gX8_lend_X8_lastPlanned : GoodIn wsX8_lend (wsV RX8 182 RX8 yX8_lastPlanned wsX8_lastPlanned) := goodIn_app (goodIn_of _ (by decide +kernel)) ggX8_lend_X8_lastPlanned
set_option maxRecDepth 20000 in
theorem ggX8_lend_X8_of : GoodIn wsX8_lend wsX8_of := goodIn_r _ [23, 2, 24, 25, 6, 26, 37, 38, 39, 40, 41, 42, 43, 44, 45, 46, 47, 48, 49, 50, 51, 52, 53, 54] (by decide +kernel) (by decide +kernel)
set_option maxRecDepth 20000 in
theorem gX8_lend_X8_of : GoodIn wsX8_lend (wsV RX8 42 RX8 yX8_of wsX8_of) := goodIn_app (goodIn_of _ (by decide +kernel)) ggX8_lend_X8_of
set_option maxRecDepth 20000 in
theorem ggX8_lend_X8_save : GoodIn wsX8_lend wsX8_save := goodIn_r _ [30, 31, 32, 2, 37, 38, 39, 40, 41, 42, 43, 44, 45, 46, 47, 48, 49, 50, 51, 52, 53, 54] (by decide +kernel) (by decide +kernel)
set_option maxRecDepth 20000 in
theorem gX8_lend_X8_save : GoodIn wsX8_lend (wsV RX8 46 RX8 yX8_save wsX8_save) := goodIn_app (goodIn_of _ (by decide +kernel)) ggX8_lend_X8_save
set_option maxRecDepth 20000 in
theorem ggX8_lend_X8_dayOf : GoodIn wsX8_lend wsX8_dayOf := goodIn_r _ [36, 20, 21, 22, 6, 23, 2, 24, 25, 26, 37, 38, 39, 40, 41, 42, 43, 44, 45, 46, 47, 48, 49, 50, 51, 52, 53, 54] (by decide +kernel) (by decide +kernel)
set_option maxRecDepth 20000 in
theorem gX8_lend_X8_dayOf : GoodIn wsX8_lend (wsV RX8 97 RX8 yX8_dayOf wsX8_dayOf) := goodIn_app (goodIn_of _ (by decide +kernel)) ggX8_lend_X8_dayOf
theorem dX8_lend_0 : decode cX8_lend 0 = .ok (.iload_n 1, 1) := by decide +kernel
theorem dX8_lend_1 : decode cX8_lend 1 = .ok (.invokestatic 179, 3) := by decide +kernel
theorem dX8_lend_4 : decode cX8_lend 4 = .ok (.ifCond .eq 11, 3) := by decide +kernel
theorem dX8_lend_7 : decode cX8_lend 7 = .ok (.aload_n 0, 1) := by decide +kernel
theorem dX8_lend_8 : decode cX8_lend 8 = .ok (.iload_n 2, 1) := by decide +kernel
theorem dX8_lend_9 : decode cX8_lend 9 = .ok (.invokevirtual 38, 3) := by decide +kernel
theorem dX8_lend_12 : decode cX8_lend 12 = .ok (.ifCond .ne 6, 3) := by decide +kernel
theorem dX8_lend_15 : decode cX8_lend 15 = .ok (.ldc 61, 2) := by decide +kernel
theorem dX8_lend_17 : decode cX8_lend 17 = .ok (.ireturn, 1) := by decide +kernel
theorem dX8_lend_18 : decode cX8_lend 18 = .ok (.aload_n 0, 1) := by decide +kernel
theorem dX8_lend_19 : decode cX8_lend 19 = .ok (.iload_n 2, 1) := by decide +kernel
theorem dX8_lend_20 : decode cX8_lend 20 = .ok (.invokevirtual 182, 3) := by decide +kernel
theorem dX8_lend_23 : decode cX8_lend 23 = .ok (.istore_n 3, 1) := by decide +kernel
theorem dX8_lend_24 : decode cX8_lend 24 = .ok (.aload_n 0, 1) := by decide +kernel
theorem dX8_lend_25 : decode cX8_lend 25 = .ok (.getfield 7, 3) := by decide +kernel
theorem dX8_lend_28 : decode cX8_lend 28 = .ok (.bipush 40, 2) := by decide +kernel
theorem dX8_lend_30 : decode cX8_lend 30 = .ok (.iconst 2, 1) := by decide +kernel
theorem dX8_lend_31 : decode cX8_lend 31 = .ok (.iload_n 1, 1) := by decide +kernel
theorem dX8_lend_32 : decode cX8_lend 32 = .ok (.imul, 1) := by decide +kernel
theorem dX8_lend_33 : decode cX8_lend 33 = .ok (.iadd, 1) := by decide +kernel
theorem dX8_lend_34 : decode cX8_lend 34 = .ok (.iaload, 1) := by decide +kernel
theorem dX8_lend_35 : decode cX8_lend 35 = .ok (.iconst (-1), 1) := by decide +kernel
theorem dX8_lend_36 : decode cX8_lend 36 = .ok (.if_icmp .ne 23, 3) := by decide +kernel
theorem dX8_lend_39 : decode cX8_lend 39 = .ok (.iload_n 3, 1) := by decide +kernel
theorem dX8_lend_40 : decode cX8_lend 40 = .ok (.iconst (-1), 1) := by decide +kernel
theorem dX8_lend_41 : decode cX8_lend 41 = .ok (.if_icmp .eq 18, 3) := by decide +kernel
theorem dX8_lend_44 : decode cX8_lend 44 = .ok (.aload_n 0, 1) := by decide +kernel
theorem dX8_lend_45 : decode cX8_lend 45 = .ok (.iload_n 2, 1) := by decide +kernel
theorem dX8_lend_46 : decode cX8_lend 46 = .ok (.iconst 1, 1) := by decide +kernel
theorem dX8_lend_47 : decode cX8_lend 47 = .ok (.invokevirtual 42, 3) := by decide +kernel
theorem dX8_lend_50 : decode cX8_lend 50 = .ok (.iload_n 1, 1) := by decide +kernel
theorem dX8_lend_51 : decode cX8_lend 51 = .ok (.iconst 3, 1) := by decide +kernel
theorem dX8_lend_52 : decode cX8_lend 52 = .ok (.irem, 1) := by decide +kernel
theorem dX8_lend_53 : decode cX8_lend 53 = .ok (.ishr, 1) := by decide +kernel
theorem dX8_lend_54 : decode cX8_lend 54 = .ok (.iconst 1, 1) := by decide +kernel
theorem dX8_lend_55 : decode cX8_lend 55 = .ok (.iand, 1) := by decide +kernel
theorem dX8_lend_56 : decode cX8_lend 56 = .ok (.ifCond .ne 6, 3) := by decide +kernel
theorem dX8_lend_59 : decode cX8_lend 59 = .ok (.ldc 119, 2) := by decide +kernel
theorem dX8_lend_61 : decode cX8_lend 61 = .ok (.ireturn, 1) := by decide +kernel
theorem dX8_lend_62 : decode cX8_lend 62 = .ok (.aload_n 0, 1) := by decide +kernel
theorem dX8_lend_63 : decode cX8_lend 63 = .ok (.invokevirtual 46, 3) := by decide +kernel
theorem dX8_lend_66 : decode cX8_lend 66 = .ok (.aload_n 0, 1) := by decide +kernel
theorem dX8_lend_67 : decode cX8_lend 67 = .ok (.getfield 7, 3) := by decide +kernel
theorem dX8_lend_70 : decode cX8_lend 70 = .ok (.bipush 40, 2) := by decide +kernel
theorem dX8_lend_72 : decode cX8_lend 72 = .ok (.iconst 2, 1) := by decide +kernel
theorem dX8_lend_73 : decode cX8_lend 73 = .ok (.iload_n 1, 1) := by decide +kernel
theorem dX8_lend_74 : decode cX8_lend 74 = .ok (.imul, 1) := by decide +kernel
theorem dX8_lend_75 : decode cX8_lend 75 = .ok (.iadd, 1) := by decide +kernel
theorem dX8_lend_76 : decode cX8_lend 76 = .ok (.iload_n 2, 1) := by decide +kernel
theorem dX8_lend_77 : decode cX8_lend 77 = .ok (.iastore, 1) := by decide +kernel
theorem dX8_lend_78 : decode cX8_lend 78 = .ok (.aload_n 0, 1) := by decide +kernel
theorem dX8_lend_79 : decode cX8_lend 79 = .ok (.getfield 7, 3) := by decide +kernel
theorem dX8_lend_82 : decode cX8_lend 82 = .ok (.bipush 40, 2) := by decide +kernel
theorem dX8_lend_84 : decode cX8_lend 84 = .ok (.iconst 2, 1) := by decide +kernel
theorem dX8_lend_85 : decode cX8_lend 85 = .ok (.iload_n 1, 1) := by decide +kernel
theorem dX8_lend_86 : decode cX8_lend 86 = .ok (.imul, 1) := by decide +kernel
theorem dX8_lend_87 : decode cX8_lend 87 = .ok (.iadd, 1) := by decide +kernel
theorem dX8_lend_88 : decode cX8_lend 88 = .ok (.iconst 1, 1) := by decide +kernel
theorem dX8_lend_89 : decode cX8_lend 89 = .ok (.iadd, 1) := by decide +kernel
theorem dX8_lend_90 : decode cX8_lend 90 = .ok (.aload_n 0, 1) := by decide +kernel
theorem dX8_lend_91 : decode cX8_lend 91 = .ok (.bipush 20, 2) := by decide +kernel
theorem dX8_lend_93 : decode cX8_lend 93 = .ok (.iload_n 2, 1) := by decide +kernel
theorem dX8_lend_94 : decode cX8_lend 94 = .ok (.imul, 1) := by decide +kernel
theorem dX8_lend_95 : decode cX8_lend 95 = .ok (.iload_n 3, 1) := by decide +kernel
theorem dX8_lend_96 : decode cX8_lend 96 = .ok (.iadd, 1) := by decide +kernel
theorem dX8_lend_97 : decode cX8_lend 97 = .ok (.invokevirtual 97, 3) := by decide +kernel
theorem dX8_lend_100 : decode cX8_lend 100 = .ok (.aload_n 0, 1) := by decide +kernel
theorem dX8_lend_101 : decode cX8_lend 101 = .ok (.getfield 7, 3) := by decide +kernel
theorem dX8_lend_104 : decode cX8_lend 104 = .ok (.bipush 8, 2) := by decide +kernel
theorem dX8_lend_106 : decode cX8_lend 106 = .ok (.iaload, 1) := by decide +kernel
theorem dX8_lend_107 : decode cX8_lend 107 = .ok (.iadd, 1) := by decide +kernel
theorem dX8_lend_108 : decode cX8_lend 108 = .ok (.iastore, 1) := by decide +kernel
theorem dX8_lend_109 : decode cX8_lend 109 = .ok (.aload_n 0, 1) := by decide +kernel
theorem dX8_lend_110 : decode cX8_lend 110 = .ok (.getfield 7, 3) := by decide +kernel
theorem dX8_lend_113 : decode cX8_lend 113 = .ok (.bipush 40, 2) := by decide +kernel
theorem dX8_lend_115 : decode cX8_lend 115 = .ok (.iconst 2, 1) := by decide +kernel
theorem dX8_lend_116 : decode cX8_lend 116 = .ok (.iload_n 1, 1) := by decide +kernel
theorem dX8_lend_117 : decode cX8_lend 117 = .ok (.imul, 1) := by decide +kernel
theorem dX8_lend_118 : decode cX8_lend 118 = .ok (.iadd, 1) := by decide +kernel
theorem dX8_lend_119 : decode cX8_lend 119 = .ok (.iconst 1, 1) := by decide +kernel
theorem dX8_lend_120 : decode cX8_lend 120 = .ok (.iadd, 1) := by decide +kernel
theorem dX8_lend_121 : decode cX8_lend 121 = .ok (.iaload, 1) := by decide +kernel
theorem dX8_lend_122 : decode cX8_lend 122 = .ok (.ireturn, 1) := by decide +kernel
set_option maxRecDepth 20000 in
theorem ggX8_bringBack_X8_isKey : GoodIn wsX8_bringBack wsX8_isKey := goodIn_r _ [7, 8, 9, 10, 6, 11] (by decide +kernel) (by decide +kernel)
set_option maxRecDepth 20000 in
theorem gX8_bringBack_X8_isKey : GoodIn wsX8_bringBack (va_wsS RX8 179 yX8_isKey wsX8_isKey) := goodIn_app (goodIn_of _ (by decide +kernel)) ggX8_bringBack_X8_isKey
set_option maxRecDepth 20000 in
theorem ggX8_bringBack_X8_save : GoodIn wsX8_bringBack wsX8_save := goodIn_r _ [15, 16, 17, 2, 22, 23, 24, 25, 26, 27, 28, 29, 30, 31, 32, 33, 34, 35, 36, 37, 38, 39] (by decide +kernel) (by decide +kernel)
set_option maxRecDepth 20000 in
theorem gX8_bringBack_X8_save : GoodIn wsX8_bringBack (wsV RX8 46 RX8 yX8_save wsX8_save) := goodIn_app (goodIn_of _ (by decide +kernel)) ggX8_bringBack_X8_save
set_option maxRecDepth 20000 in
theorem ggX8_bringBack_X8_lateBy : GoodIn wsX8_bringBack wsX8_lateBy := goodIn_r _ [21, 2, 22, 23, 24, 25, 26, 27, 28, 29, 30, 31, 32, 33, 34, 35, 36, 37, 38, 39] (by decide +kernel) (by decide +kernel)
set_option maxRecDepth 20000 in
theorem gX8_bringBack_X8_lateBy : GoodIn wsX8_bringBack (wsV RX8 152 RX8 yX8_lateBy wsX8_lateBy) := goodIn_app (goodIn_of _ (by decide +kernel)) ggX8_bringBack_X8_lateBy
theorem dX8_bringBack_0 : decode cX8_bringBack 0 = .ok (.iload_n 1, 1) := by decide +kernel
theorem dX8_bringBack_1 : decode cX8_bringBack 1 = .ok (.invokestatic 179, 3) := by decide +kernel
theorem dX8_bringBack_4 : decode cX8_bringBack 4 = .ok (.ifCond .ne 6, 3) := by decide +kernel
theorem dX8_bringBack_7 : decode cX8_bringBack 7 = .ok (.ldc 61, 2) := by decide +kernel
theorem dX8_bringBack_9 : decode cX8_bringBack 9 = .ok (.ireturn, 1) := by decide +kernel
theorem dX8_bringBack_10 : decode cX8_bringBack 10 = .ok (.aload_n 0, 1) := by decide +kernel
theorem dX8_bringBack_11 : decode cX8_bringBack 11 = .ok (.getfield 7, 3) := by decide +kernel
theorem dX8_bringBack_14 : decode cX8_bringBack 14 = .ok (.bipush 40, 2) := by decide +kernel
theorem dX8_bringBack_16 : decode cX8_bringBack 16 = .ok (.iconst 2, 1) := by decide +kernel
theorem dX8_bringBack_17 : decode cX8_bringBack 17 = .ok (.iload_n 1, 1) := by decide +kernel
theorem dX8_bringBack_18 : decode cX8_bringBack 18 = .ok (.imul, 1) := by decide +kernel
theorem dX8_bringBack_19 : decode cX8_bringBack 19 = .ok (.iadd, 1) := by decide +kernel
theorem dX8_bringBack_20 : decode cX8_bringBack 20 = .ok (.iaload, 1) := by decide +kernel
theorem dX8_bringBack_21 : decode cX8_bringBack 21 = .ok (.iconst (-1), 1) := by decide +kernel
theorem dX8_bringBack_22 : decode cX8_bringBack 22 = .ok (.if_icmp .ne 6, 3) := by decide +kernel
theorem dX8_bringBack_25 : decode cX8_bringBack 25 = .ok (.ldc 119, 2) := by decide +kernel
theorem dX8_bringBack_27 : decode cX8_bringBack 27 = .ok (.ireturn, 1) := by decide +kernel
theorem dX8_bringBack_28 : decode cX8_bringBack 28 = .ok (.aload_n 0, 1) := by decide +kernel
theorem dX8_bringBack_29 : decode cX8_bringBack 29 = .ok (.invokevirtual 46, 3) := by decide +kernel
theorem dX8_bringBack_32 : decode cX8_bringBack 32 = .ok (.aload_n 0, 1) := by decide +kernel
theorem dX8_bringBack_33 : decode cX8_bringBack 33 = .ok (.iload_n 1, 1) := by decide +kernel
theorem dX8_bringBack_34 : decode cX8_bringBack 34 = .ok (.invokevirtual 152, 3) := by decide +kernel
theorem dX8_bringBack_37 : decode cX8_bringBack 37 = .ok (.istore_n 2, 1) := by decide +kernel
theorem dX8_bringBack_38 : decode cX8_bringBack 38 = .ok (.aload_n 0, 1) := by decide +kernel
theorem dX8_bringBack_39 : decode cX8_bringBack 39 = .ok (.getfield 7, 3) := by decide +kernel
theorem dX8_bringBack_42 : decode cX8_bringBack 42 = .ok (.bipush 40, 2) := by decide +kernel
theorem dX8_bringBack_44 : decode cX8_bringBack 44 = .ok (.iconst 2, 1) := by decide +kernel
theorem dX8_bringBack_45 : decode cX8_bringBack 45 = .ok (.iload_n 1, 1) := by decide +kernel
theorem dX8_bringBack_46 : decode cX8_bringBack 46 = .ok (.imul, 1) := by decide +kernel
theorem dX8_bringBack_47 : decode cX8_bringBack 47 = .ok (.iadd, 1) := by decide +kernel
theorem dX8_bringBack_48 : decode cX8_bringBack 48 = .ok (.iconst (-1), 1) := by decide +kernel
theorem dX8_bringBack_49 : decode cX8_bringBack 49 = .ok (.iastore, 1) := by decide +kernel
theorem dX8_bringBack_50 : decode cX8_bringBack 50 = .ok (.aload_n 0, 1) := by decide +kernel
theorem dX8_bringBack_51 : decode cX8_bringBack 51 = .ok (.getfield 7, 3) := by decide +kernel
theorem dX8_bringBack_54 : decode cX8_bringBack 54 = .ok (.bipush 40, 2) := by decide +kernel
theorem dX8_bringBack_56 : decode cX8_bringBack 56 = .ok (.iconst 2, 1) := by decide +kernel
theorem dX8_bringBack_57 : decode cX8_bringBack 57 = .ok (.iload_n 1, 1) := by decide +kernel
theorem dX8_bringBack_58 : decode cX8_bringBack 58 = .ok (.imul, 1) := by decide +kernel
theorem dX8_bringBack_59 : decode cX8_bringBack 59 = .ok (.iadd, 1) := by decide +kernel
theorem dX8_bringBack_60 : decode cX8_bringBack 60 = .ok (.iconst 1, 1) := by decide +kernel
theorem dX8_bringBack_61 : decode cX8_bringBack 61 = .ok (.iadd, 1) := by decide +kernel
theorem dX8_bringBack_62 : decode cX8_bringBack 62 = .ok (.iconst 0, 1) := by decide +kernel
theorem dX8_bringBack_63 : decode cX8_bringBack 63 = .ok (.iastore, 1) := by decide +kernel
theorem dX8_bringBack_64 : decode cX8_bringBack 64 = .ok (.iload_n 2, 1) := by decide +kernel
theorem dX8_bringBack_65 : decode cX8_bringBack 65 = .ok (.ireturn, 1) := by decide +kernel
set_option maxRecDepth 20000 in
theorem ggX8_key_X8_isKey : GoodIn wsX8_key wsX8_isKey := goodIn_r _ [8, 9, 10, 11, 7, 12] (by decide +kernel) (by decide +kernel)
set_option maxRecDepth 20000 in
theorem gX8_key_X8_isKey : GoodIn wsX8_key (va_wsS RX8 179 yX8_isKey wsX8_isKey) := goodIn_app (goodIn_of _ (by decide +kernel)) ggX8_key_X8_isKey
set_option maxRecDepth 20000 in
theorem ggX8_key_X8_in : GoodIn wsX8_key wsX8_in := goodIn_r _ [12] (by decide +kernel) (by decide +kernel)
set_option maxRecDepth 20000 in
theorem gX8_key_X8_in : GoodIn wsX8_key (va_wsS RX8 30 yX8_in wsX8_in) := goodIn_app (goodIn_of _ (by decide +kernel)) ggX8_key_X8_in
set_option maxRecDepth 20000 in
theorem ggX8_key_X8_of : GoodIn wsX8_key wsX8_of := goodIn_r _ [16, 3, 17, 18, 7, 19, 24, 25, 26, 27, 28, 29, 30, 31, 32, 33, 34, 35, 36, 37, 38, 39, 40, 41] (by decide +kernel) (by decide +kernel)
set_option maxRecDepth 20000 in
theorem gX8_key_X8_of : GoodIn wsX8_key (wsV RX8 42 RX8 yX8_of wsX8_of) := goodIn_app (goodIn_of _ (by decide +kernel)) ggX8_key_X8_of
set_option maxRecDepth 20000 in
theorem ggX8_key_X8_lateBy : GoodIn wsX8_key wsX8_lateBy := goodIn_r _ [23, 3, 24, 25, 26, 27, 28, 29, 30, 31, 32, 33, 34, 35, 36, 37, 38, 39, 40, 41] (by decide +kernel) (by decide +kernel)
set_option maxRecDepth 20000 in
theorem gX8_key_X8_lateBy : GoodIn wsX8_key (wsV RX8 152 RX8 yX8_lateBy wsX8_lateBy) := goodIn_app (goodIn_of _ (by decide +kernel)) ggX8_key_X8_lateBy
theorem dX8_key_0 : decode cX8_key 0 = .ok (.iload_n 1, 1) := by decide +kernel
theorem dX8_key_1 : decode cX8_key 1 = .ok (.invokestatic 179, 3) := by decide +kernel
theorem dX8_key_4 : decode cX8_key 4 = .ok (.ifCond .eq 15, 3) := by decide +kernel
theorem dX8_key_7 : decode cX8_key 7 = .ok (.iload_n 2, 1) := by decide +kernel
theorem dX8_key_8 : decode cX8_key 8 = .ok (.i2l, 1) := by decide +kernel
theorem dX8_key_9 : decode cX8_key 9 = .ok (.lconst 0, 1) := by decide +kernel
theorem dX8_key_10 : decode cX8_key 10 = .ok (.ldc2_w 185, 3) := by decide +kernel
theorem dX8_key_13 : decode cX8_key 13 = .ok (.invokestatic 30, 3) := by decide +kernel
theorem dX8_key_16 : decode cX8_key 16 = .ok (.ifCond .ne 6, 3) := by decide +kernel
theorem dX8_key_19 : decode cX8_key 19 = .ok (.ldc 61, 2) := by decide +kernel
theorem dX8_key_21 : decode cX8_key 21 = .ok (.ireturn, 1) := by decide +kernel
theorem dX8_key_22 : decode cX8_key 22 = .ok (.iload_n 2, 1) := by decide +kernel
theorem dX8_key_23 : decode cX8_key 23 = .ok (.ifCond .ne 7, 3) := by decide +kernel
theorem dX8_key_26 : decode cX8_key 26 = .ok (.iload_n 1, 1) := by decide +kernel
theorem dX8_key_27 : decode cX8_key 27 = .ok (.iconst 3, 1) := by decide +kernel
theorem dX8_key_28 : decode cX8_key 28 = .ok (.irem, 1) := by decide +kernel
theorem dX8_key_29 : decode cX8_key 29 = .ok (.ireturn, 1) := by decide +kernel
theorem dX8_key_30 : decode cX8_key 30 = .ok (.aload_n 0, 1) := by decide +kernel
theorem dX8_key_31 : decode cX8_key 31 = .ok (.getfield 7, 3) := by decide +kernel
theorem dX8_key_34 : decode cX8_key 34 = .ok (.bipush 40, 2) := by decide +kernel
theorem dX8_key_36 : decode cX8_key 36 = .ok (.iconst 2, 1) := by decide +kernel
theorem dX8_key_37 : decode cX8_key 37 = .ok (.iload_n 1, 1) := by decide +kernel
theorem dX8_key_38 : decode cX8_key 38 = .ok (.imul, 1) := by decide +kernel
theorem dX8_key_39 : decode cX8_key 39 = .ok (.iadd, 1) := by decide +kernel
theorem dX8_key_40 : decode cX8_key 40 = .ok (.iaload, 1) := by decide +kernel
theorem dX8_key_41 : decode cX8_key 41 = .ok (.istore_n 3, 1) := by decide +kernel
theorem dX8_key_42 : decode cX8_key 42 = .ok (.iload_n 3, 1) := by decide +kernel
theorem dX8_key_43 : decode cX8_key 43 = .ok (.iconst (-1), 1) := by decide +kernel
theorem dX8_key_44 : decode cX8_key 44 = .ok (.if_icmp .ne 6, 3) := by decide +kernel
theorem dX8_key_47 : decode cX8_key 47 = .ok (.ldc 19, 2) := by decide +kernel
theorem dX8_key_49 : decode cX8_key 49 = .ok (.ireturn, 1) := by decide +kernel
theorem dX8_key_50 : decode cX8_key 50 = .ok (.iload_n 2, 1) := by decide +kernel
theorem dX8_key_51 : decode cX8_key 51 = .ok (.iconst 1, 1) := by decide +kernel
theorem dX8_key_52 : decode cX8_key 52 = .ok (.if_icmp .ne 12, 3) := by decide +kernel
theorem dX8_key_55 : decode cX8_key 55 = .ok (.aload_n 0, 1) := by decide +kernel
theorem dX8_key_56 : decode cX8_key 56 = .ok (.iload_n 3, 1) := by decide +kernel
theorem dX8_key_57 : decode cX8_key 57 = .ok (.iconst 0, 1) := by decide +kernel
theorem dX8_key_58 : decode cX8_key 58 = .ok (.invokevirtual 42, 3) := by decide +kernel
theorem dX8_key_61 : decode cX8_key 61 = .ok (.goto 38, 3) := by decide +kernel
theorem dX8_key_64 : decode cX8_key 64 = .ok (.iload_n 2, 1) := by decide +kernel
theorem dX8_key_65 : decode cX8_key 65 = .ok (.iconst 2, 1) := by decide +kernel
theorem dX8_key_66 : decode cX8_key 66 = .ok (.if_icmp .ne 7, 3) := by decide +kernel
theorem dX8_key_69 : decode cX8_key 69 = .ok (.iload_n 3, 1) := by decide +kernel
theorem dX8_key_70 : decode cX8_key 70 = .ok (.goto 29, 3) := by decide +kernel
theorem dX8_key_73 : decode cX8_key 73 = .ok (.iload_n 2, 1) := by decide +kernel
theorem dX8_key_74 : decode cX8_key 74 = .ok (.iconst 3, 1) := by decide +kernel
theorem dX8_key_75 : decode cX8_key 75 = .ok (.if_icmp .ne 19, 3) := by decide +kernel
theorem dX8_key_78 : decode cX8_key 78 = .ok (.aload_n 0, 1) := by decide +kernel
theorem dX8_key_79 : decode cX8_key 79 = .ok (.getfield 7, 3) := by decide +kernel
theorem dX8_key_82 : decode cX8_key 82 = .ok (.bipush 40, 2) := by decide +kernel
theorem dX8_key_84 : decode cX8_key 84 = .ok (.iconst 2, 1) := by decide +kernel
theorem dX8_key_85 : decode cX8_key 85 = .ok (.iload_n 1, 1) := by decide +kernel
theorem dX8_key_86 : decode cX8_key 86 = .ok (.imul, 1) := by decide +kernel
theorem dX8_key_87 : decode cX8_key 87 = .ok (.iadd, 1) := by decide +kernel
theorem dX8_key_88 : decode cX8_key 88 = .ok (.iconst 1, 1) := by decide +kernel
theorem dX8_key_89 : decode cX8_key 89 = .ok (.iadd, 1) := by decide +kernel
theorem dX8_key_90 : decode cX8_key 90 = .ok (.iaload, 1) := by decide +kernel
theorem dX8_key_91 : decode cX8_key 91 = .ok (.goto 8, 3) := by decide +kernel
theorem dX8_key_94 : decode cX8_key 94 = .ok (.aload_n 0, 1) := by decide +kernel
theorem dX8_key_95 : decode cX8_key 95 = .ok (.iload_n 1, 1) := by decide +kernel
theorem dX8_key_96 : decode cX8_key 96 = .ok (.invokevirtual 152, 3) := by decide +kernel
theorem dX8_key_99 : decode cX8_key 99 = .ok (.ireturn, 1) := by decide +kernel
set_option maxRecDepth 20000 in
theorem ggX8_costOf_X8_of : GoodIn wsX8_costOf wsX8_of := goodIn_r _ [5, 6, 7, 8, 4, 9, 13, 14, 15, 16, 17, 18, 19, 20, 21, 22, 23, 24, 25, 26, 27, 28, 29, 30] (by decide +kernel) (by decide +kernel)
