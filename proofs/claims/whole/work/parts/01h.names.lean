set_option maxRecDepth 20000 in
theorem gX8_costOf_X8_of : GoodIn wsX8_costOf (wsV RX8 42 RX8 yX8_of wsX8_of) := goodIn_app (goodIn_of _ (by decide +kernel)) ggX8_costOf_X8_of
set_option maxRecDepth 20000 in
theorem ggX8_costOf_X8_roomsIn : GoodIn wsX8_costOf wsX8_roomsIn := goodIn_r _ [12] (by decide +kernel) (by decide +kernel)
set_option maxRecDepth 20000 in
theorem gX8_costOf_X8_roomsIn : GoodIn wsX8_costOf (va_wsS RX8 158 yX8_roomsIn wsX8_roomsIn) := goodIn_app (goodIn_of _ (by decide +kernel)) ggX8_costOf_X8_roomsIn
theorem dX8_costOf_0 : decode cX8_costOf 0 = .ok (.iload_n 2, 1) := by decide +kernel
theorem dX8_costOf_1 : decode cX8_costOf 1 = .ok (.ifCond .ne 17, 3) := by decide +kernel
theorem dX8_costOf_4 : decode cX8_costOf 4 = .ok (.sipush 1000, 3) := by decide +kernel
theorem dX8_costOf_7 : decode cX8_costOf 7 = .ok (.aload_n 0, 1) := by decide +kernel
theorem dX8_costOf_8 : decode cX8_costOf 8 = .ok (.iload_n 1, 1) := by decide +kernel
theorem dX8_costOf_9 : decode cX8_costOf 9 = .ok (.iconst 1, 1) := by decide +kernel
theorem dX8_costOf_10 : decode cX8_costOf 10 = .ok (.invokevirtual 42, 3) := by decide +kernel
theorem dX8_costOf_13 : decode cX8_costOf 13 = .ok (.invokestatic 158, 3) := by decide +kernel
theorem dX8_costOf_16 : decode cX8_costOf 16 = .ok (.imul, 1) := by decide +kernel
theorem dX8_costOf_17 : decode cX8_costOf 17 = .ok (.ireturn, 1) := by decide +kernel
theorem dX8_costOf_18 : decode cX8_costOf 18 = .ok (.iload_n 2, 1) := by decide +kernel
theorem dX8_costOf_19 : decode cX8_costOf 19 = .ok (.iconst 3, 1) := by decide +kernel
theorem dX8_costOf_20 : decode cX8_costOf 20 = .ok (.if_icmp .ge 18, 3) := by decide +kernel
theorem dX8_costOf_23 : decode cX8_costOf 23 = .ok (.iload_n 2, 1) := by decide +kernel
theorem dX8_costOf_24 : decode cX8_costOf 24 = .ok (.iconst 1, 1) := by decide +kernel
theorem dX8_costOf_25 : decode cX8_costOf 25 = .ok (.if_icmp .ne 9, 3) := by decide +kernel
theorem dX8_costOf_28 : decode cX8_costOf 28 = .ok (.sipush 2500, 3) := by decide +kernel
theorem dX8_costOf_31 : decode cX8_costOf 31 = .ok (.goto 6, 3) := by decide +kernel
theorem dX8_costOf_34 : decode cX8_costOf 34 = .ok (.sipush 4000, 3) := by decide +kernel
theorem dX8_costOf_37 : decode cX8_costOf 37 = .ok (.ireturn, 1) := by decide +kernel
theorem dX8_costOf_38 : decode cX8_costOf 38 = .ok (.sipush 2000, 3) := by decide +kernel
theorem dX8_costOf_41 : decode cX8_costOf 41 = .ok (.istore_n 3, 1) := by decide +kernel
theorem dX8_costOf_42 : decode cX8_costOf 42 = .ok (.iconst 0, 1) := by decide +kernel
theorem dX8_costOf_43 : decode cX8_costOf 43 = .ok (.istore 4, 2) := by decide +kernel
theorem dX8_costOf_45 : decode cX8_costOf 45 = .ok (.iload 4, 2) := by decide +kernel
theorem dX8_costOf_47 : decode cX8_costOf 47 = .ok (.aload_n 0, 1) := by decide +kernel
theorem dX8_costOf_48 : decode cX8_costOf 48 = .ok (.iload_n 1, 1) := by decide +kernel
theorem dX8_costOf_49 : decode cX8_costOf 49 = .ok (.bipush 11, 2) := by decide +kernel
theorem dX8_costOf_51 : decode cX8_costOf 51 = .ok (.invokevirtual 42, 3) := by decide +kernel
theorem dX8_costOf_54 : decode cX8_costOf 54 = .ok (.if_icmp .ge 35, 3) := by decide +kernel
theorem dX8_costOf_57 : decode cX8_costOf 57 = .ok (.iload_n 3, 1) := by decide +kernel
theorem dX8_costOf_58 : decode cX8_costOf 58 = .ok (.aload_n 0, 1) := by decide +kernel
theorem dX8_costOf_59 : decode cX8_costOf 59 = .ok (.iload_n 1, 1) := by decide +kernel
theorem dX8_costOf_60 : decode cX8_costOf 60 = .ok (.bipush 32, 2) := by decide +kernel
theorem dX8_costOf_62 : decode cX8_costOf 62 = .ok (.iconst 4, 1) := by decide +kernel
theorem dX8_costOf_63 : decode cX8_costOf 63 = .ok (.iload 4, 2) := by decide +kernel
theorem dX8_costOf_65 : decode cX8_costOf 65 = .ok (.imul, 1) := by decide +kernel
theorem dX8_costOf_66 : decode cX8_costOf 66 = .ok (.iadd, 1) := by decide +kernel
theorem dX8_costOf_67 : decode cX8_costOf 67 = .ok (.invokevirtual 42, 3) := by decide +kernel
theorem dX8_costOf_70 : decode cX8_costOf 70 = .ok (.iconst 3, 1) := by decide +kernel
theorem dX8_costOf_71 : decode cX8_costOf 71 = .ok (.if_icmp .ne 9, 3) := by decide +kernel
theorem dX8_costOf_74 : decode cX8_costOf 74 = .ok (.sipush 500, 3) := by decide +kernel
theorem dX8_costOf_77 : decode cX8_costOf 77 = .ok (.goto 4, 3) := by decide +kernel
theorem dX8_costOf_80 : decode cX8_costOf 80 = .ok (.iconst 0, 1) := by decide +kernel
theorem dX8_costOf_81 : decode cX8_costOf 81 = .ok (.iadd, 1) := by decide +kernel
theorem dX8_costOf_82 : decode cX8_costOf 82 = .ok (.istore_n 3, 1) := by decide +kernel
theorem dX8_costOf_83 : decode cX8_costOf 83 = .ok (.iinc 4 1, 3) := by decide +kernel
theorem dX8_costOf_86 : decode cX8_costOf 86 = .ok (.goto (-41), 3) := by decide +kernel
theorem dX8_costOf_89 : decode cX8_costOf 89 = .ok (.iload_n 3, 1) := by decide +kernel
theorem dX8_costOf_90 : decode cX8_costOf 90 = .ok (.ireturn, 1) := by decide +kernel
set_option maxRecDepth 20000 in
theorem ggX8_report_X8_isSession : GoodIn wsX8_report wsX8_isSession := goodIn_r _ [10, 11, 12, 13, 9, 14, 5, 15, 16, 17, 18, 19, 20, 21, 22, 23, 24, 50, 51, 52, 53, 54, 55, 56, 57, 58, 59, 60, 61, 62, 63, 64, 65, 66, 67] (by decide +kernel) (by decide +kernel)
set_option maxRecDepth 20000 in
theorem gX8_report_X8_isSession : GoodIn wsX8_report (wsV RX8 133 RX8 yX8_isSession wsX8_isSession) := goodIn_app (goodIn_of _ (by decide +kernel)) ggX8_report_X8_isSession
set_option maxRecDepth 20000 in
theorem ggX8_report_X8_in : GoodIn wsX8_report wsX8_in := goodIn_r _ [17] (by decide +kernel) (by decide +kernel)
set_option maxRecDepth 20000 in
theorem gX8_report_X8_in : GoodIn wsX8_report (va_wsS RX8 30 yX8_in wsX8_in) := goodIn_app (goodIn_of _ (by decide +kernel)) ggX8_report_X8_in
set_option maxRecDepth 20000 in
theorem ggX8_report_X8_of : GoodIn wsX8_report wsX8_of := goodIn_r _ [21, 5, 22, 23, 9, 24, 50, 51, 52, 53, 54, 55, 56, 57, 58, 59, 60, 61, 62, 63, 64, 65, 66, 67] (by decide +kernel) (by decide +kernel)
set_option maxRecDepth 20000 in
theorem gX8_report_X8_of : GoodIn wsX8_report (wsV RX8 42 RX8 yX8_of wsX8_of) := goodIn_app (goodIn_of _ (by decide +kernel)) ggX8_report_X8_of
set_option maxRecDepth 20000 in
theorem ggX8_report_X8_stateOf : GoodIn wsX8_report wsX8_stateOf := goodIn_r _ [28, 18, 19, 20, 9, 21, 5, 22, 23, 24, 50, 51, 52, 53, 54, 55, 56, 57, 58, 59, 60, 61, 62, 63, 64, 65, 66, 67] (by decide +kernel) (by decide +kernel)
set_option maxRecDepth 20000 in
theorem gX8_report_X8_stateOf : GoodIn wsX8_report (wsV RX8 94 RX8 yX8_stateOf wsX8_stateOf) := goodIn_app (goodIn_of _ (by decide +kernel)) ggX8_report_X8_stateOf
set_option maxRecDepth 20000 in
theorem ggX8_report_X8_save : GoodIn wsX8_report wsX8_save := goodIn_r _ [32, 33, 34, 5, 50, 51, 52, 53, 54, 55, 56, 57, 58, 59, 60, 61, 62, 63, 64, 65, 66, 67] (by decide +kernel) (by decide +kernel)
set_option maxRecDepth 20000 in
theorem gX8_report_X8_save : GoodIn wsX8_report (wsV RX8 46 RX8 yX8_save wsX8_save) := goodIn_app (goodIn_of _ (by decide +kernel)) ggX8_report_X8_save
set_option maxRecDepth 20000 in
theorem ggX8_report_X8_costOf : GoodIn wsX8_report wsX8_costOf := goodIn_r _ [38, 18, 19, 20, 9, 21, 5, 22, 23, 24, 39, 40, 41, 50, 51, 52, 53, 54, 55, 56, 57, 58, 59, 60, 61, 62, 63, 64, 65, 66, 67] (by decide +kernel) (by decide +kernel)
set_option maxRecDepth 20000 in
theorem gX8_report_X8_costOf : GoodIn wsX8_report (wsV RX8 187 RX8 yX8_costOf wsX8_costOf) := goodIn_app (goodIn_of _ (by decide +kernel)) ggX8_report_X8_costOf
set_option maxRecDepth 20000 in
theorem ggX8_report_X8_at : GoodIn wsX8_report wsX8_at := goodIn_r _ [24] (by decide +kernel) (by decide +kernel)
set_option maxRecDepth 20000 in
theorem gX8_report_X8_at : GoodIn wsX8_report (va_wsS RX8 34 yX8_at wsX8_at) := goodIn_app (goodIn_of _ (by decide +kernel)) ggX8_report_X8_at
set_option maxRecDepth 20000 in
theorem ggX8_report_X8_takes : GoodIn wsX8_report wsX8_takes := goodIn_r _ [45, 5, 18, 19, 20, 9, 21, 22, 23, 24, 46, 47, 48, 49, 50, 51, 52, 53, 54, 55, 56, 57, 58, 59, 60, 61, 62, 63, 64, 65, 66, 67] (by decide +kernel) (by decide +kernel)
set_option maxRecDepth 20000 in
theorem gX8_report_X8_takes : GoodIn wsX8_report (wsV RX8 155 RX8 yX8_takes wsX8_takes) := goodIn_app (goodIn_of _ (by decide +kernel)) ggX8_report_X8_takes
theorem dX8_report_0 : decode cX8_report 0 = .ok (.aload_n 0, 1) := by decide +kernel
theorem dX8_report_1 : decode cX8_report 1 = .ok (.iload_n 1, 1) := by decide +kernel
theorem dX8_report_2 : decode cX8_report 2 = .ok (.invokevirtual 133, 3) := by decide +kernel
theorem dX8_report_5 : decode cX8_report 5 = .ok (.ifCond .eq 15, 3) := by decide +kernel
theorem dX8_report_8 : decode cX8_report 8 = .ok (.iload_n 2, 1) := by decide +kernel
theorem dX8_report_9 : decode cX8_report 9 = .ok (.i2l, 1) := by decide +kernel
theorem dX8_report_10 : decode cX8_report 10 = .ok (.lconst 0, 1) := by decide +kernel
theorem dX8_report_11 : decode cX8_report 11 = .ok (.ldc2_w 136, 3) := by decide +kernel
theorem dX8_report_14 : decode cX8_report 14 = .ok (.invokestatic 30, 3) := by decide +kernel
theorem dX8_report_17 : decode cX8_report 17 = .ok (.ifCond .ne 6, 3) := by decide +kernel
theorem dX8_report_20 : decode cX8_report 20 = .ok (.ldc 61, 2) := by decide +kernel
theorem dX8_report_22 : decode cX8_report 22 = .ok (.ireturn, 1) := by decide +kernel
theorem dX8_report_23 : decode cX8_report 23 = .ok (.iload_n 1, 1) := by decide +kernel
theorem dX8_report_24 : decode cX8_report 24 = .ok (.bipush 20, 2) := by decide +kernel
theorem dX8_report_26 : decode cX8_report 26 = .ok (.idiv, 1) := by decide +kernel
theorem dX8_report_27 : decode cX8_report 27 = .ok (.istore_n 3, 1) := by decide +kernel
theorem dX8_report_28 : decode cX8_report 28 = .ok (.iload_n 2, 1) := by decide +kernel
theorem dX8_report_29 : decode cX8_report 29 = .ok (.iconst 1, 1) := by decide +kernel
theorem dX8_report_30 : decode cX8_report 30 = .ok (.if_icmp .ne 14, 3) := by decide +kernel
theorem dX8_report_33 : decode cX8_report 33 = .ok (.aload_n 0, 1) := by decide +kernel
theorem dX8_report_34 : decode cX8_report 34 = .ok (.iload_n 3, 1) := by decide +kernel
theorem dX8_report_35 : decode cX8_report 35 = .ok (.iconst 1, 1) := by decide +kernel
theorem dX8_report_36 : decode cX8_report 36 = .ok (.invokevirtual 42, 3) := by decide +kernel
theorem dX8_report_39 : decode cX8_report 39 = .ok (.iconst 2, 1) := by decide +kernel
theorem dX8_report_40 : decode cX8_report 40 = .ok (.iand, 1) := by decide +kernel
theorem dX8_report_41 : decode cX8_report 41 = .ok (.ifCond .eq 7, 3) := by decide +kernel
theorem dX8_report_44 : decode cX8_report 44 = .ok (.iconst 1, 1) := by decide +kernel
theorem dX8_report_45 : decode cX8_report 45 = .ok (.goto 4, 3) := by decide +kernel
theorem dX8_report_48 : decode cX8_report 48 = .ok (.iconst 0, 1) := by decide +kernel
theorem dX8_report_49 : decode cX8_report 49 = .ok (.istore 4, 2) := by decide +kernel
theorem dX8_report_51 : decode cX8_report 51 = .ok (.aload_n 0, 1) := by decide +kernel
theorem dX8_report_52 : decode cX8_report 52 = .ok (.iload_n 1, 1) := by decide +kernel
theorem dX8_report_53 : decode cX8_report 53 = .ok (.invokevirtual 94, 3) := by decide +kernel
theorem dX8_report_56 : decode cX8_report 56 = .ok (.iconst 1, 1) := by decide +kernel
theorem dX8_report_57 : decode cX8_report 57 = .ok (.if_icmp .ne 19, 3) := by decide +kernel
theorem dX8_report_60 : decode cX8_report 60 = .ok (.aload_n 0, 1) := by decide +kernel
theorem dX8_report_61 : decode cX8_report 61 = .ok (.iload_n 3, 1) := by decide +kernel
theorem dX8_report_62 : decode cX8_report 62 = .ok (.bipush 10, 2) := by decide +kernel
theorem dX8_report_64 : decode cX8_report 64 = .ok (.invokevirtual 42, 3) := by decide +kernel
theorem dX8_report_67 : decode cX8_report 67 = .ok (.iconst 1, 1) := by decide +kernel
theorem dX8_report_68 : decode cX8_report 68 = .ok (.if_icmp .eq 8, 3) := by decide +kernel
theorem dX8_report_71 : decode cX8_report 71 = .ok (.iload 4, 2) := by decide +kernel
theorem dX8_report_73 : decode cX8_report 73 = .ok (.ifCond .ne 6, 3) := by decide +kernel
theorem dX8_report_76 : decode cX8_report 76 = .ok (.ldc 119, 2) := by decide +kernel
theorem dX8_report_78 : decode cX8_report 78 = .ok (.ireturn, 1) := by decide +kernel
theorem dX8_report_79 : decode cX8_report 79 = .ok (.aload_n 0, 1) := by decide +kernel
theorem dX8_report_80 : decode cX8_report 80 = .ok (.iload_n 3, 1) := by decide +kernel
theorem dX8_report_81 : decode cX8_report 81 = .ok (.bipush 11, 2) := by decide +kernel
theorem dX8_report_83 : decode cX8_report 83 = .ok (.invokevirtual 42, 3) := by decide +kernel
theorem dX8_report_86 : decode cX8_report 86 = .ok (.istore 5, 2) := by decide +kernel
theorem dX8_report_88 : decode cX8_report 88 = .ok (.iload 5, 2) := by decide +kernel
theorem dX8_report_90 : decode cX8_report 90 = .ok (.bipush 8, 2) := by decide +kernel
theorem dX8_report_92 : decode cX8_report 92 = .ok (.if_icmp .ne 6, 3) := by decide +kernel
theorem dX8_report_95 : decode cX8_report 95 = .ok (.ldc 45, 2) := by decide +kernel
theorem dX8_report_97 : decode cX8_report 97 = .ok (.ireturn, 1) := by decide +kernel
theorem dX8_report_98 : decode cX8_report 98 = .ok (.aload_n 0, 1) := by decide +kernel
theorem dX8_report_99 : decode cX8_report 99 = .ok (.invokevirtual 46, 3) := by decide +kernel
theorem dX8_report_102 : decode cX8_report 102 = .ok (.aload_n 0, 1) := by decide +kernel
theorem dX8_report_103 : decode cX8_report 103 = .ok (.iload_n 3, 1) := by decide +kernel
theorem dX8_report_104 : decode cX8_report 104 = .ok (.iload_n 2, 1) := by decide +kernel
theorem dX8_report_105 : decode cX8_report 105 = .ok (.invokevirtual 187, 3) := by decide +kernel
theorem dX8_report_108 : decode cX8_report 108 = .ok (.istore 6, 2) := by decide +kernel
theorem dX8_report_110 : decode cX8_report 110 = .ok (.aload_n 0, 1) := by decide +kernel
theorem dX8_report_111 : decode cX8_report 111 = .ok (.getfield 7, 3) := by decide +kernel
theorem dX8_report_114 : decode cX8_report 114 = .ok (.iload_n 3, 1) := by decide +kernel
theorem dX8_report_115 : decode cX8_report 115 = .ok (.bipush 32, 2) := by decide +kernel
theorem dX8_report_117 : decode cX8_report 117 = .ok (.iconst 4, 1) := by decide +kernel
theorem dX8_report_118 : decode cX8_report 118 = .ok (.iload 5, 2) := by decide +kernel
theorem dX8_report_120 : decode cX8_report 120 = .ok (.imul, 1) := by decide +kernel
theorem dX8_report_121 : decode cX8_report 121 = .ok (.iadd, 1) := by decide +kernel
theorem dX8_report_122 : decode cX8_report 122 = .ok (.invokestatic 34, 3) := by decide +kernel
theorem dX8_report_125 : decode cX8_report 125 = .ok (.iload_n 2, 1) := by decide +kernel
theorem dX8_report_126 : decode cX8_report 126 = .ok (.iastore, 1) := by decide +kernel
theorem dX8_report_127 : decode cX8_report 127 = .ok (.aload_n 0, 1) := by decide +kernel
theorem dX8_report_128 : decode cX8_report 128 = .ok (.getfield 7, 3) := by decide +kernel
theorem dX8_report_131 : decode cX8_report 131 = .ok (.iload_n 3, 1) := by decide +kernel
theorem dX8_report_132 : decode cX8_report 132 = .ok (.bipush 32, 2) := by decide +kernel
theorem dX8_report_134 : decode cX8_report 134 = .ok (.iconst 4, 1) := by decide +kernel
theorem dX8_report_135 : decode cX8_report 135 = .ok (.iload 5, 2) := by decide +kernel
theorem dX8_report_137 : decode cX8_report 137 = .ok (.imul, 1) := by decide +kernel
theorem dX8_report_138 : decode cX8_report 138 = .ok (.iadd, 1) := by decide +kernel
theorem dX8_report_139 : decode cX8_report 139 = .ok (.iconst 1, 1) := by decide +kernel
theorem dX8_report_140 : decode cX8_report 140 = .ok (.iadd, 1) := by decide +kernel
theorem dX8_report_141 : decode cX8_report 141 = .ok (.invokestatic 34, 3) := by decide +kernel
theorem dX8_report_144 : decode cX8_report 144 = .ok (.iload_n 1, 1) := by decide +kernel
theorem dX8_report_145 : decode cX8_report 145 = .ok (.iastore, 1) := by decide +kernel
theorem dX8_report_146 : decode cX8_report 146 = .ok (.aload_n 0, 1) := by decide +kernel
theorem dX8_report_147 : decode cX8_report 147 = .ok (.getfield 7, 3) := by decide +kernel
theorem dX8_report_150 : decode cX8_report 150 = .ok (.iload_n 3, 1) := by decide +kernel
theorem dX8_report_151 : decode cX8_report 151 = .ok (.bipush 32, 2) := by decide +kernel
theorem dX8_report_153 : decode cX8_report 153 = .ok (.iconst 4, 1) := by decide +kernel
theorem dX8_report_154 : decode cX8_report 154 = .ok (.iload 5, 2) := by decide +kernel
theorem dX8_report_156 : decode cX8_report 156 = .ok (.imul, 1) := by decide +kernel
theorem dX8_report_157 : decode cX8_report 157 = .ok (.iadd, 1) := by decide +kernel
theorem dX8_report_158 : decode cX8_report 158 = .ok (.iconst 2, 1) := by decide +kernel
theorem dX8_report_159 : decode cX8_report 159 = .ok (.iadd, 1) := by decide +kernel
theorem dX8_report_160 : decode cX8_report 160 = .ok (.invokestatic 34, 3) := by decide +kernel
theorem dX8_report_163 : decode cX8_report 163 = .ok (.iload 6, 2) := by decide +kernel
theorem dX8_report_165 : decode cX8_report 165 = .ok (.iastore, 1) := by decide +kernel
theorem dX8_report_166 : decode cX8_report 166 = .ok (.aload_n 0, 1) := by decide +kernel
theorem dX8_report_167 : decode cX8_report 167 = .ok (.getfield 7, 3) := by decide +kernel
theorem dX8_report_170 : decode cX8_report 170 = .ok (.iload_n 3, 1) := by decide +kernel
theorem dX8_report_171 : decode cX8_report 171 = .ok (.bipush 32, 2) := by decide +kernel
theorem dX8_report_173 : decode cX8_report 173 = .ok (.iconst 4, 1) := by decide +kernel
theorem dX8_report_174 : decode cX8_report 174 = .ok (.iload 5, 2) := by decide +kernel
theorem dX8_report_176 : decode cX8_report 176 = .ok (.imul, 1) := by decide +kernel
theorem dX8_report_177 : decode cX8_report 177 = .ok (.iadd, 1) := by decide +kernel
theorem dX8_report_178 : decode cX8_report 178 = .ok (.iconst 3, 1) := by decide +kernel
theorem dX8_report_179 : decode cX8_report 179 = .ok (.iadd, 1) := by decide +kernel
theorem dX8_report_180 : decode cX8_report 180 = .ok (.invokestatic 34, 3) := by decide +kernel
theorem dX8_report_183 : decode cX8_report 183 = .ok (.aload_n 0, 1) := by decide +kernel
theorem dX8_report_184 : decode cX8_report 184 = .ok (.iload_n 3, 1) := by decide +kernel
theorem dX8_report_185 : decode cX8_report 185 = .ok (.iload 6, 2) := by decide +kernel
theorem dX8_report_187 : decode cX8_report 187 = .ok (.iconst 4, 1) := by decide +kernel
theorem dX8_report_188 : decode cX8_report 188 = .ok (.invokevirtual 155, 3) := by decide +kernel
theorem dX8_report_191 : decode cX8_report 191 = .ok (.iastore, 1) := by decide +kernel
theorem dX8_report_192 : decode cX8_report 192 = .ok (.aload_n 0, 1) := by decide +kernel
theorem dX8_report_193 : decode cX8_report 193 = .ok (.getfield 7, 3) := by decide +kernel
theorem dX8_report_196 : decode cX8_report 196 = .ok (.iload_n 3, 1) := by decide +kernel
theorem dX8_report_197 : decode cX8_report 197 = .ok (.bipush 11, 2) := by decide +kernel
theorem dX8_report_199 : decode cX8_report 199 = .ok (.invokestatic 34, 3) := by decide +kernel
theorem dX8_report_202 : decode cX8_report 202 = .ok (.dup2, 1) := by decide +kernel
theorem dX8_report_203 : decode cX8_report 203 = .ok (.iaload, 1) := by decide +kernel
theorem dX8_report_204 : decode cX8_report 204 = .ok (.iconst 1, 1) := by decide +kernel
theorem dX8_report_205 : decode cX8_report 205 = .ok (.iadd, 1) := by decide +kernel
theorem dX8_report_206 : decode cX8_report 206 = .ok (.iastore, 1) := by decide +kernel
theorem dX8_report_207 : decode cX8_report 207 = .ok (.iload 6, 2) := by decide +kernel
theorem dX8_report_209 : decode cX8_report 209 = .ok (.ireturn, 1) := by decide +kernel
set_option maxRecDepth 20000 in
theorem ggX8_fault_X8_isHire : GoodIn wsX8_fault wsX8_isHire := goodIn_r _ [8, 9, 10, 11, 7, 12, 20, 21, 22, 23, 24, 25, 26, 27, 28, 29, 30, 31, 32, 33, 34, 35, 36, 37] (by decide +kernel) (by decide +kernel)
set_option maxRecDepth 20000 in
theorem gX8_fault_X8_isHire : GoodIn wsX8_fault (wsV RX8 38 RX8 yX8_isHire wsX8_isHire) := goodIn_app (goodIn_of _ (by decide +kernel)) ggX8_fault_X8_isHire
set_option maxRecDepth 20000 in
theorem ggX8_fault_X8_in : GoodIn wsX8_fault wsX8_in := goodIn_r _ [12] (by decide +kernel) (by decide +kernel)
set_option maxRecDepth 20000 in
theorem gX8_fault_X8_in : GoodIn wsX8_fault (va_wsS RX8 30 yX8_in wsX8_in) := goodIn_app (goodIn_of _ (by decide +kernel)) ggX8_fault_X8_in
set_option maxRecDepth 20000 in
theorem ggX8_fault_X8_of : GoodIn wsX8_fault wsX8_of := goodIn_r _ [16, 9, 17, 18, 7, 19, 20, 21, 22, 23, 24, 25, 26, 27, 28, 29, 30, 31, 32, 33, 34, 35, 36, 37] (by decide +kernel) (by decide +kernel)
set_option maxRecDepth 20000 in
theorem gX8_fault_X8_of : GoodIn wsX8_fault (wsV RX8 42 RX8 yX8_of wsX8_of) := goodIn_app (goodIn_of _ (by decide +kernel)) ggX8_fault_X8_of
theorem dX8_fault_0 : decode cX8_fault 0 = .ok (.aload_n 0, 1) := by decide +kernel
theorem dX8_fault_1 : decode cX8_fault 1 = .ok (.iload_n 1, 1) := by decide +kernel
theorem dX8_fault_2 : decode cX8_fault 2 = .ok (.invokevirtual 38, 3) := by decide +kernel
theorem dX8_fault_5 : decode cX8_fault 5 = .ok (.ifCond .eq 19, 3) := by decide +kernel
theorem dX8_fault_8 : decode cX8_fault 8 = .ok (.iload_n 2, 1) := by decide +kernel
theorem dX8_fault_9 : decode cX8_fault 9 = .ok (.ifCond .lt 15, 3) := by decide +kernel
theorem dX8_fault_12 : decode cX8_fault 12 = .ok (.iload_n 3, 1) := by decide +kernel
theorem dX8_fault_13 : decode cX8_fault 13 = .ok (.i2l, 1) := by decide +kernel
theorem dX8_fault_14 : decode cX8_fault 14 = .ok (.lconst 0, 1) := by decide +kernel
theorem dX8_fault_15 : decode cX8_fault 15 = .ok (.ldc2_w 136, 3) := by decide +kernel
theorem dX8_fault_18 : decode cX8_fault 18 = .ok (.invokestatic 30, 3) := by decide +kernel
theorem dX8_fault_21 : decode cX8_fault 21 = .ok (.ifCond .ne 6, 3) := by decide +kernel
theorem dX8_fault_24 : decode cX8_fault 24 = .ok (.ldc 61, 2) := by decide +kernel
theorem dX8_fault_26 : decode cX8_fault 26 = .ok (.ireturn, 1) := by decide +kernel
theorem dX8_fault_27 : decode cX8_fault 27 = .ok (.iload_n 2, 1) := by decide +kernel
theorem dX8_fault_28 : decode cX8_fault 28 = .ok (.aload_n 0, 1) := by decide +kernel
theorem dX8_fault_29 : decode cX8_fault 29 = .ok (.iload_n 1, 1) := by decide +kernel
theorem dX8_fault_30 : decode cX8_fault 30 = .ok (.bipush 11, 2) := by decide +kernel
theorem dX8_fault_32 : decode cX8_fault 32 = .ok (.invokevirtual 42, 3) := by decide +kernel
theorem dX8_fault_35 : decode cX8_fault 35 = .ok (.if_icmp .ge 19, 3) := by decide +kernel
theorem dX8_fault_38 : decode cX8_fault 38 = .ok (.aload_n 0, 1) := by decide +kernel
theorem dX8_fault_39 : decode cX8_fault 39 = .ok (.iload_n 1, 1) := by decide +kernel
theorem dX8_fault_40 : decode cX8_fault 40 = .ok (.bipush 32, 2) := by decide +kernel
theorem dX8_fault_42 : decode cX8_fault 42 = .ok (.iconst 4, 1) := by decide +kernel
theorem dX8_fault_43 : decode cX8_fault 43 = .ok (.iload_n 2, 1) := by decide +kernel
theorem dX8_fault_44 : decode cX8_fault 44 = .ok (.imul, 1) := by decide +kernel
theorem dX8_fault_45 : decode cX8_fault 45 = .ok (.iadd, 1) := by decide +kernel
theorem dX8_fault_46 : decode cX8_fault 46 = .ok (.iload_n 3, 1) := by decide +kernel
theorem dX8_fault_47 : decode cX8_fault 47 = .ok (.iadd, 1) := by decide +kernel
theorem dX8_fault_48 : decode cX8_fault 48 = .ok (.invokevirtual 42, 3) := by decide +kernel
theorem dX8_fault_51 : decode cX8_fault 51 = .ok (.goto 5, 3) := by decide +kernel
theorem dX8_fault_54 : decode cX8_fault 54 = .ok (.ldc 19, 2) := by decide +kernel
theorem dX8_fault_56 : decode cX8_fault 56 = .ok (.ireturn, 1) := by decide +kernel
set_option maxRecDepth 20000 in
theorem ggX8_settle_X8_isHire : GoodIn wsX8_settle wsX8_isHire := goodIn_r _ [8, 3, 9, 10, 7, 11, 37, 38, 39, 40, 41, 42, 43, 44, 45, 46, 47, 48, 49, 50, 51, 52, 53, 54] (by decide +kernel) (by decide +kernel)
set_option maxRecDepth 20000 in
theorem gX8_settle_X8_isHire : GoodIn wsX8_settle (wsV RX8 38 RX8 yX8_isHire wsX8_isHire) := goodIn_app (goodIn_of _ (by decide +kernel)) ggX8_settle_X8_isHire
set_option maxRecDepth 20000 in
theorem ggX8_settle_X8_of : GoodIn wsX8_settle wsX8_of := goodIn_r _ [15, 3, 16, 17, 7, 18, 37, 38, 39, 40, 41, 42, 43, 44, 45, 46, 47, 48, 49, 50, 51, 52, 53, 54] (by decide +kernel) (by decide +kernel)
set_option maxRecDepth 20000 in
theorem gX8_settle_X8_of : GoodIn wsX8_settle (wsV RX8 42 RX8 yX8_of wsX8_of) := goodIn_app (goodIn_of _ (by decide +kernel)) ggX8_settle_X8_of
set_option maxRecDepth 20000 in
theorem ggX8_settle_X8_manyOf : GoodIn wsX8_settle wsX8_manyOf := goodIn_r _ [22, 12, 13, 14, 7, 15, 3, 16, 17, 18, 37, 38, 39, 40, 41, 42, 43, 44, 45, 46, 47, 48, 49, 50, 51, 52, 53, 54] (by decide +kernel) (by decide +kernel)
set_option maxRecDepth 20000 in
theorem gX8_settle_X8_manyOf : GoodIn wsX8_settle (wsV RX8 49 RX8 yX8_manyOf wsX8_manyOf) := goodIn_app (goodIn_of _ (by decide +kernel)) ggX8_settle_X8_manyOf
set_option maxRecDepth 20000 in
theorem ggX8_settle_X8_keysOf : GoodIn wsX8_settle wsX8_keysOf := goodIn_r _ [26, 3, 37, 38, 39, 40, 41, 42, 43, 44, 45, 46, 47, 48, 49, 50, 51, 52, 53, 54] (by decide +kernel) (by decide +kernel)
set_option maxRecDepth 20000 in
theorem gX8_settle_X8_keysOf : GoodIn wsX8_settle (wsV RX8 52 RX8 yX8_keysOf wsX8_keysOf) := goodIn_app (goodIn_of _ (by decide +kernel)) ggX8_settle_X8_keysOf
set_option maxRecDepth 20000 in
theorem ggX8_settle_X8_save : GoodIn wsX8_settle wsX8_save := goodIn_r _ [30, 31, 32, 3, 37, 38, 39, 40, 41, 42, 43, 44, 45, 46, 47, 48, 49, 50, 51, 52, 53, 54] (by decide +kernel) (by decide +kernel)
set_option maxRecDepth 20000 in
theorem gX8_settle_X8_save : GoodIn wsX8_settle (wsV RX8 46 RX8 yX8_save wsX8_save) := goodIn_app (goodIn_of _ (by decide +kernel)) ggX8_settle_X8_save
set_option maxRecDepth 20000 in
theorem ggX8_settle_X8_at : GoodIn wsX8_settle wsX8_at := goodIn_r _ [18] (by decide +kernel) (by decide +kernel)
set_option maxRecDepth 20000 in
theorem gX8_settle_X8_at : GoodIn wsX8_settle (va_wsS RX8 34 yX8_at wsX8_at) := goodIn_app (goodIn_of _ (by decide +kernel)) ggX8_settle_X8_at
set_option maxRecDepth 20000 in
theorem ggX8_settle_X8_pays : GoodIn wsX8_settle wsX8_pays := goodIn_r _ [36, 3, 37, 38, 39, 40, 41, 42, 43, 44, 45, 46, 47, 48, 49, 50, 51, 52, 53, 54] (by decide +kernel) (by decide +kernel)
set_option maxRecDepth 20000 in
theorem gX8_settle_X8_pays : GoodIn wsX8_settle (wsV RX8 68 RX8 yX8_pays wsX8_pays) := goodIn_app (goodIn_of _ (by decide +kernel)) ggX8_settle_X8_pays
theorem dX8_settle_0 : decode cX8_settle 0 = .ok (.aload_n 0, 1) := by decide +kernel
theorem dX8_settle_1 : decode cX8_settle 1 = .ok (.iload_n 1, 1) := by decide +kernel
theorem dX8_settle_2 : decode cX8_settle 2 = .ok (.invokevirtual 38, 3) := by decide +kernel
theorem dX8_settle_5 : decode cX8_settle 5 = .ok (.ifCond .ne 6, 3) := by decide +kernel
theorem dX8_settle_8 : decode cX8_settle 8 = .ok (.ldc 61, 2) := by decide +kernel
theorem dX8_settle_10 : decode cX8_settle 10 = .ok (.ireturn, 1) := by decide +kernel
theorem dX8_settle_11 : decode cX8_settle 11 = .ok (.aload_n 0, 1) := by decide +kernel
theorem dX8_settle_12 : decode cX8_settle 12 = .ok (.iload_n 1, 1) := by decide +kernel
theorem dX8_settle_13 : decode cX8_settle 13 = .ok (.bipush 10, 2) := by decide +kernel
theorem dX8_settle_15 : decode cX8_settle 15 = .ok (.invokevirtual 42, 3) := by decide +kernel
theorem dX8_settle_18 : decode cX8_settle 18 = .ok (.iconst 1, 1) := by decide +kernel
theorem dX8_settle_19 : decode cX8_settle 19 = .ok (.if_icmp .eq 20, 3) := by decide +kernel
theorem dX8_settle_22 : decode cX8_settle 22 = .ok (.aload_n 0, 1) := by decide +kernel
theorem dX8_settle_23 : decode cX8_settle 23 = .ok (.iload_n 1, 1) := by decide +kernel
theorem dX8_settle_24 : decode cX8_settle 24 = .ok (.iconst 0, 1) := by decide +kernel
theorem dX8_settle_25 : decode cX8_settle 25 = .ok (.invokevirtual 49, 3) := by decide +kernel
theorem dX8_settle_28 : decode cX8_settle 28 = .ok (.ifCond .gt 11, 3) := by decide +kernel
theorem dX8_settle_31 : decode cX8_settle 31 = .ok (.aload_n 0, 1) := by decide +kernel
theorem dX8_settle_32 : decode cX8_settle 32 = .ok (.iload_n 1, 1) := by decide +kernel
theorem dX8_settle_33 : decode cX8_settle 33 = .ok (.invokevirtual 52, 3) := by decide +kernel
theorem dX8_settle_36 : decode cX8_settle 36 = .ok (.ifCond .le 6, 3) := by decide +kernel
theorem dX8_settle_39 : decode cX8_settle 39 = .ok (.ldc 119, 2) := by decide +kernel
theorem dX8_settle_41 : decode cX8_settle 41 = .ok (.ireturn, 1) := by decide +kernel
theorem dX8_settle_42 : decode cX8_settle 42 = .ok (.aload_n 0, 1) := by decide +kernel
theorem dX8_settle_43 : decode cX8_settle 43 = .ok (.invokevirtual 46, 3) := by decide +kernel
theorem dX8_settle_46 : decode cX8_settle 46 = .ok (.aload_n 0, 1) := by decide +kernel
theorem dX8_settle_47 : decode cX8_settle 47 = .ok (.iload_n 1, 1) := by decide +kernel
theorem dX8_settle_48 : decode cX8_settle 48 = .ok (.bipush 9, 2) := by decide +kernel
theorem dX8_settle_50 : decode cX8_settle 50 = .ok (.invokevirtual 42, 3) := by decide +kernel
theorem dX8_settle_53 : decode cX8_settle 53 = .ok (.istore_n 2, 1) := by decide +kernel
theorem dX8_settle_54 : decode cX8_settle 54 = .ok (.aload_n 0, 1) := by decide +kernel
theorem dX8_settle_55 : decode cX8_settle 55 = .ok (.getfield 7, 3) := by decide +kernel
theorem dX8_settle_58 : decode cX8_settle 58 = .ok (.iload_n 1, 1) := by decide +kernel
theorem dX8_settle_59 : decode cX8_settle 59 = .ok (.bipush 9, 2) := by decide +kernel
theorem dX8_settle_61 : decode cX8_settle 61 = .ok (.invokestatic 34, 3) := by decide +kernel
theorem dX8_settle_64 : decode cX8_settle 64 = .ok (.iconst 0, 1) := by decide +kernel
theorem dX8_settle_65 : decode cX8_settle 65 = .ok (.iastore, 1) := by decide +kernel
theorem dX8_settle_66 : decode cX8_settle 66 = .ok (.aload_n 0, 1) := by decide +kernel
theorem dX8_settle_67 : decode cX8_settle 67 = .ok (.getfield 7, 3) := by decide +kernel
theorem dX8_settle_70 : decode cX8_settle 70 = .ok (.iload_n 1, 1) := by decide +kernel
theorem dX8_settle_71 : decode cX8_settle 71 = .ok (.bipush 10, 2) := by decide +kernel
theorem dX8_settle_73 : decode cX8_settle 73 = .ok (.invokestatic 34, 3) := by decide +kernel
theorem dX8_settle_76 : decode cX8_settle 76 = .ok (.iconst 1, 1) := by decide +kernel
theorem dX8_settle_77 : decode cX8_settle 77 = .ok (.iastore, 1) := by decide +kernel
theorem dX8_settle_78 : decode cX8_settle 78 = .ok (.aload_n 0, 1) := by decide +kernel
theorem dX8_settle_79 : decode cX8_settle 79 = .ok (.getfield 7, 3) := by decide +kernel
theorem dX8_settle_82 : decode cX8_settle 82 = .ok (.bipush 14, 2) := by decide +kernel
theorem dX8_settle_84 : decode cX8_settle 84 = .ok (.dup2, 1) := by decide +kernel
theorem dX8_settle_85 : decode cX8_settle 85 = .ok (.iaload, 1) := by decide +kernel
theorem dX8_settle_86 : decode cX8_settle 86 = .ok (.iload_n 2, 1) := by decide +kernel
theorem dX8_settle_87 : decode cX8_settle 87 = .ok (.isub, 1) := by decide +kernel
theorem dX8_settle_88 : decode cX8_settle 88 = .ok (.iastore, 1) := by decide +kernel
theorem dX8_settle_89 : decode cX8_settle 89 = .ok (.aload_n 0, 1) := by decide +kernel
theorem dX8_settle_90 : decode cX8_settle 90 = .ok (.getfield 7, 3) := by decide +kernel
theorem dX8_settle_93 : decode cX8_settle 93 = .ok (.bipush 17, 2) := by decide +kernel
theorem dX8_settle_95 : decode cX8_settle 95 = .ok (.dup2, 1) := by decide +kernel
theorem dX8_settle_96 : decode cX8_settle 96 = .ok (.iaload, 1) := by decide +kernel
theorem dX8_settle_97 : decode cX8_settle 97 = .ok (.iload_n 2, 1) := by decide +kernel
theorem dX8_settle_98 : decode cX8_settle 98 = .ok (.iadd, 1) := by decide +kernel
theorem dX8_settle_99 : decode cX8_settle 99 = .ok (.iastore, 1) := by decide +kernel
theorem dX8_settle_100 : decode cX8_settle 100 = .ok (.aload_n 0, 1) := by decide +kernel
theorem dX8_settle_101 : decode cX8_settle 101 = .ok (.aload_n 0, 1) := by decide +kernel
theorem dX8_settle_102 : decode cX8_settle 102 = .ok (.iload_n 1, 1) := by decide +kernel
theorem dX8_settle_103 : decode cX8_settle 103 = .ok (.iconst 0, 1) := by decide +kernel
theorem dX8_settle_104 : decode cX8_settle 104 = .ok (.invokevirtual 42, 3) := by decide +kernel
theorem dX8_settle_107 : decode cX8_settle 107 = .ok (.iload_n 2, 1) := by decide +kernel
theorem dX8_settle_108 : decode cX8_settle 108 = .ok (.invokevirtual 68, 3) := by decide +kernel
theorem dX8_settle_111 : decode cX8_settle 111 = .ok (.iload_n 2, 1) := by decide +kernel
theorem dX8_settle_112 : decode cX8_settle 112 = .ok (.ireturn, 1) := by decide +kernel
set_option maxRecDepth 20000 in
theorem ggX8_type_X8_in : GoodIn wsX8_type wsX8_in := goodIn_r _ [10] (by decide +kernel) (by decide +kernel)
set_option maxRecDepth 20000 in
theorem gX8_type_X8_in : GoodIn wsX8_type (va_wsS RX8 30 yX8_in wsX8_in) := goodIn_app (goodIn_of _ (by decide +kernel)) ggX8_type_X8_in
theorem dX8_type_0 : decode cX8_type 0 = .ok (.iload_n 1, 1) := by decide +kernel
theorem dX8_type_1 : decode cX8_type 1 = .ok (.i2l, 1) := by decide +kernel
theorem dX8_type_2 : decode cX8_type 2 = .ok (.ldc2_w 190, 3) := by decide +kernel
theorem dX8_type_5 : decode cX8_type 5 = .ok (.ldc2_w 192, 3) := by decide +kernel
theorem dX8_type_8 : decode cX8_type 8 = .ok (.invokestatic 30, 3) := by decide +kernel
theorem dX8_type_11 : decode cX8_type 11 = .ok (.ifCond .ne 6, 3) := by decide +kernel
theorem dX8_type_14 : decode cX8_type 14 = .ok (.ldc 61, 2) := by decide +kernel
theorem dX8_type_16 : decode cX8_type 16 = .ok (.ireturn, 1) := by decide +kernel
theorem dX8_type_17 : decode cX8_type 17 = .ok (.aload_n 0, 1) := by decide +kernel
theorem dX8_type_18 : decode cX8_type 18 = .ok (.getfield 174, 3) := by decide +kernel
theorem dX8_type_21 : decode cX8_type 21 = .ok (.bipush 80, 2) := by decide +kernel
theorem dX8_type_23 : decode cX8_type 23 = .ok (.if_icmp .ne 6, 3) := by decide +kernel
theorem dX8_type_26 : decode cX8_type 26 = .ok (.ldc 45, 2) := by decide +kernel
theorem dX8_type_28 : decode cX8_type 28 = .ok (.ireturn, 1) := by decide +kernel
theorem dX8_type_29 : decode cX8_type 29 = .ok (.aload_n 0, 1) := by decide +kernel
theorem dX8_type_30 : decode cX8_type 30 = .ok (.getfield 24, 3) := by decide +kernel
theorem dX8_type_33 : decode cX8_type 33 = .ok (.aload_n 0, 1) := by decide +kernel
theorem dX8_type_34 : decode cX8_type 34 = .ok (.getfield 174, 3) := by decide +kernel
theorem dX8_type_37 : decode cX8_type 37 = .ok (.iload_n 1, 1) := by decide +kernel
theorem dX8_type_38 : decode cX8_type 38 = .ok (.iastore, 1) := by decide +kernel
theorem dX8_type_39 : decode cX8_type 39 = .ok (.aload_n 0, 1) := by decide +kernel
theorem dX8_type_40 : decode cX8_type 40 = .ok (.dup, 1) := by decide +kernel
theorem dX8_type_41 : decode cX8_type 41 = .ok (.getfield 174, 3) := by decide +kernel
theorem dX8_type_44 : decode cX8_type 44 = .ok (.iconst 1, 1) := by decide +kernel
theorem dX8_type_45 : decode cX8_type 45 = .ok (.iadd, 1) := by decide +kernel
theorem dX8_type_46 : decode cX8_type 46 = .ok (.putfield 174, 3) := by decide +kernel
theorem dX8_type_49 : decode cX8_type 49 = .ok (.aload_n 0, 1) := by decide +kernel
theorem dX8_type_50 : decode cX8_type 50 = .ok (.getfield 174, 3) := by decide +kernel
theorem dX8_type_53 : decode cX8_type 53 = .ok (.ireturn, 1) := by decide +kernel
theorem dX8_clearText_0 : decode cX8_clearText 0 = .ok (.aload_n 0, 1) := by decide +kernel
theorem dX8_clearText_1 : decode cX8_clearText 1 = .ok (.getfield 174, 3) := by decide +kernel
theorem dX8_clearText_4 : decode cX8_clearText 4 = .ok (.istore_n 1, 1) := by decide +kernel
theorem dX8_clearText_5 : decode cX8_clearText 5 = .ok (.aload_n 0, 1) := by decide +kernel
theorem dX8_clearText_6 : decode cX8_clearText 6 = .ok (.iconst 0, 1) := by decide +kernel
theorem dX8_clearText_7 : decode cX8_clearText 7 = .ok (.putfield 174, 3) := by decide +kernel
theorem dX8_clearText_10 : decode cX8_clearText 10 = .ok (.iload_n 1, 1) := by decide +kernel
theorem dX8_clearText_11 : decode cX8_clearText 11 = .ok (.ireturn, 1) := by decide +kernel
theorem dX8_here_0 : decode cX8_here 0 = .ok (.aload_n 0, 1) := by decide +kernel
theorem dX8_here_1 : decode cX8_here 1 = .ok (.getfield 194, 3) := by decide +kernel
theorem dX8_here_4 : decode cX8_here 4 = .ok (.aload_n 0, 1) := by decide +kernel
theorem dX8_here_5 : decode cX8_here 5 = .ok (.getfield 174, 3) := by decide +kernel
theorem dX8_here_8 : decode cX8_here 8 = .ok (.if_icmp .ge 15, 3) := by decide +kernel
theorem dX8_here_11 : decode cX8_here 11 = .ok (.aload_n 0, 1) := by decide +kernel
theorem dX8_here_12 : decode cX8_here 12 = .ok (.getfield 24, 3) := by decide +kernel
theorem dX8_here_15 : decode cX8_here 15 = .ok (.aload_n 0, 1) := by decide +kernel
theorem dX8_here_16 : decode cX8_here 16 = .ok (.getfield 194, 3) := by decide +kernel
theorem dX8_here_19 : decode cX8_here 19 = .ok (.iaload, 1) := by decide +kernel
theorem dX8_here_20 : decode cX8_here 20 = .ok (.goto 4, 3) := by decide +kernel
theorem dX8_here_23 : decode cX8_here 23 = .ok (.iconst (-1), 1) := by decide +kernel
theorem dX8_here_24 : decode cX8_here 24 = .ok (.ireturn, 1) := by decide +kernel
set_option maxRecDepth 20000 in
theorem ggX8_passes_X8_here : GoodIn wsX8_passes wsX8_here := goodIn_r _ [6, 1, 7, 8, 9, 10, 11, 12, 13, 14, 15, 16, 17, 18, 19, 20, 21, 22, 23, 24, 25, 26] (by decide +kernel) (by decide +kernel)
set_option maxRecDepth 20000 in
theorem gX8_passes_X8_here : GoodIn wsX8_passes (wsV RX8 197 RX8 yX8_here wsX8_here) := goodIn_app (goodIn_of _ (by decide +kernel)) ggX8_passes_X8_here
theorem dX8_passes_0 : decode cX8_passes 0 = .ok (.aload_n 0, 1) := by decide +kernel
theorem dX8_passes_1 : decode cX8_passes 1 = .ok (.invokevirtual 197, 3) := by decide +kernel
theorem dX8_passes_4 : decode cX8_passes 4 = .ok (.iload_n 1, 1) := by decide +kernel
theorem dX8_passes_5 : decode cX8_passes 5 = .ok (.if_icmp .ne 7, 3) := by decide +kernel
theorem dX8_passes_8 : decode cX8_passes 8 = .ok (.iconst 1, 1) := by decide +kernel
theorem dX8_passes_9 : decode cX8_passes 9 = .ok (.goto 4, 3) := by decide +kernel
theorem dX8_passes_12 : decode cX8_passes 12 = .ok (.iconst 0, 1) := by decide +kernel
theorem dX8_passes_13 : decode cX8_passes 13 = .ok (.istore_n 2, 1) := by decide +kernel
theorem dX8_passes_14 : decode cX8_passes 14 = .ok (.aload_n 0, 1) := by decide +kernel
theorem dX8_passes_15 : decode cX8_passes 15 = .ok (.dup, 1) := by decide +kernel
theorem dX8_passes_16 : decode cX8_passes 16 = .ok (.getfield 194, 3) := by decide +kernel
theorem dX8_passes_19 : decode cX8_passes 19 = .ok (.iload_n 2, 1) := by decide +kernel
theorem dX8_passes_20 : decode cX8_passes 20 = .ok (.ifCond .eq 7, 3) := by decide +kernel
theorem dX8_passes_23 : decode cX8_passes 23 = .ok (.iconst 1, 1) := by decide +kernel
theorem dX8_passes_24 : decode cX8_passes 24 = .ok (.goto 4, 3) := by decide +kernel
theorem dX8_passes_27 : decode cX8_passes 27 = .ok (.iconst 0, 1) := by decide +kernel
theorem dX8_passes_28 : decode cX8_passes 28 = .ok (.iadd, 1) := by decide +kernel
theorem dX8_passes_29 : decode cX8_passes 29 = .ok (.putfield 194, 3) := by decide +kernel
theorem dX8_passes_32 : decode cX8_passes 32 = .ok (.iload_n 2, 1) := by decide +kernel
theorem dX8_passes_33 : decode cX8_passes 33 = .ok (.ireturn, 1) := by decide +kernel
set_option maxRecDepth 20000 in
theorem ggX8_readNumber_X8_here : GoodIn wsX8_readNumber wsX8_here := goodIn_r _ [8, 1, 9, 10, 14, 15, 16, 17, 18, 19, 20, 21, 22, 23, 24, 25, 26, 27, 28, 29, 30, 31] (by decide +kernel) (by decide +kernel)
set_option maxRecDepth 20000 in
theorem gX8_readNumber_X8_here : GoodIn wsX8_readNumber (wsV RX8 197 RX8 yX8_here wsX8_here) := goodIn_app (goodIn_of _ (by decide +kernel)) ggX8_readNumber_X8_here
set_option maxRecDepth 20000 in
theorem ggX8_readNumber_X8_in : GoodIn wsX8_readNumber wsX8_in := goodIn_r _ [13] (by decide +kernel) (by decide +kernel)
set_option maxRecDepth 20000 in
theorem gX8_readNumber_X8_in : GoodIn wsX8_readNumber (va_wsS RX8 30 yX8_in wsX8_in) := goodIn_app (goodIn_of _ (by decide +kernel)) ggX8_readNumber_X8_in
theorem dX8_readNumber_0 : decode cX8_readNumber 0 = .ok (.aload_n 0, 1) := by decide +kernel
theorem dX8_readNumber_1 : decode cX8_readNumber 1 = .ok (.getfield 194, 3) := by decide +kernel
theorem dX8_readNumber_4 : decode cX8_readNumber 4 = .ok (.istore_n 2, 1) := by decide +kernel
theorem dX8_readNumber_5 : decode cX8_readNumber 5 = .ok (.iconst 0, 1) := by decide +kernel
theorem dX8_readNumber_6 : decode cX8_readNumber 6 = .ok (.istore_n 3, 1) := by decide +kernel
theorem dX8_readNumber_7 : decode cX8_readNumber 7 = .ok (.aload_n 0, 1) := by decide +kernel
theorem dX8_readNumber_8 : decode cX8_readNumber 8 = .ok (.invokevirtual 197, 3) := by decide +kernel
theorem dX8_readNumber_11 : decode cX8_readNumber 11 = .ok (.i2l, 1) := by decide +kernel
theorem dX8_readNumber_12 : decode cX8_readNumber 12 = .ok (.ldc2_w 200, 3) := by decide +kernel
theorem dX8_readNumber_15 : decode cX8_readNumber 15 = .ok (.ldc2_w 202, 3) := by decide +kernel
theorem dX8_readNumber_18 : decode cX8_readNumber 18 = .ok (.invokestatic 30, 3) := by decide +kernel
theorem dX8_readNumber_21 : decode cX8_readNumber 21 = .ok (.ifCond .eq 39, 3) := by decide +kernel
theorem dX8_readNumber_24 : decode cX8_readNumber 24 = .ok (.aload_n 0, 1) := by decide +kernel
theorem dX8_readNumber_25 : decode cX8_readNumber 25 = .ok (.getfield 194, 3) := by decide +kernel
theorem dX8_readNumber_28 : decode cX8_readNumber 28 = .ok (.iload_n 2, 1) := by decide +kernel
theorem dX8_readNumber_29 : decode cX8_readNumber 29 = .ok (.iload_n 1, 1) := by decide +kernel
theorem dX8_readNumber_30 : decode cX8_readNumber 30 = .ok (.iadd, 1) := by decide +kernel
theorem dX8_readNumber_31 : decode cX8_readNumber 31 = .ok (.if_icmp .ge 29, 3) := by decide +kernel
theorem dX8_readNumber_34 : decode cX8_readNumber 34 = .ok (.bipush 10, 2) := by decide +kernel
theorem dX8_readNumber_36 : decode cX8_readNumber 36 = .ok (.iload_n 3, 1) := by decide +kernel
theorem dX8_readNumber_37 : decode cX8_readNumber 37 = .ok (.imul, 1) := by decide +kernel
theorem dX8_readNumber_38 : decode cX8_readNumber 38 = .ok (.aload_n 0, 1) := by decide +kernel
theorem dX8_readNumber_39 : decode cX8_readNumber 39 = .ok (.invokevirtual 197, 3) := by decide +kernel
theorem dX8_readNumber_42 : decode cX8_readNumber 42 = .ok (.iadd, 1) := by decide +kernel
theorem dX8_readNumber_43 : decode cX8_readNumber 43 = .ok (.bipush 48, 2) := by decide +kernel
theorem dX8_readNumber_45 : decode cX8_readNumber 45 = .ok (.isub, 1) := by decide +kernel
theorem dX8_readNumber_46 : decode cX8_readNumber 46 = .ok (.istore_n 3, 1) := by decide +kernel
theorem dX8_readNumber_47 : decode cX8_readNumber 47 = .ok (.aload_n 0, 1) := by decide +kernel
theorem dX8_readNumber_48 : decode cX8_readNumber 48 = .ok (.dup, 1) := by decide +kernel
theorem dX8_readNumber_49 : decode cX8_readNumber 49 = .ok (.getfield 194, 3) := by decide +kernel
theorem dX8_readNumber_52 : decode cX8_readNumber 52 = .ok (.iconst 1, 1) := by decide +kernel
theorem dX8_readNumber_53 : decode cX8_readNumber 53 = .ok (.iadd, 1) := by decide +kernel
theorem dX8_readNumber_54 : decode cX8_readNumber 54 = .ok (.putfield 194, 3) := by decide +kernel
theorem dX8_readNumber_57 : decode cX8_readNumber 57 = .ok (.goto (-50), 3) := by decide +kernel
theorem dX8_readNumber_60 : decode cX8_readNumber 60 = .ok (.aload_n 0, 1) := by decide +kernel
theorem dX8_readNumber_61 : decode cX8_readNumber 61 = .ok (.getfield 194, 3) := by decide +kernel
theorem dX8_readNumber_64 : decode cX8_readNumber 64 = .ok (.iload_n 2, 1) := by decide +kernel
theorem dX8_readNumber_65 : decode cX8_readNumber 65 = .ok (.if_icmp .eq 20, 3) := by decide +kernel
theorem dX8_readNumber_68 : decode cX8_readNumber 68 = .ok (.aload_n 0, 1) := by decide +kernel
theorem dX8_readNumber_69 : decode cX8_readNumber 69 = .ok (.invokevirtual 197, 3) := by decide +kernel
theorem dX8_readNumber_72 : decode cX8_readNumber 72 = .ok (.i2l, 1) := by decide +kernel
theorem dX8_readNumber_73 : decode cX8_readNumber 73 = .ok (.ldc2_w 200, 3) := by decide +kernel
theorem dX8_readNumber_76 : decode cX8_readNumber 76 = .ok (.ldc2_w 202, 3) := by decide +kernel
theorem dX8_readNumber_79 : decode cX8_readNumber 79 = .ok (.invokestatic 30, 3) := by decide +kernel
theorem dX8_readNumber_82 : decode cX8_readNumber 82 = .ok (.ifCond .eq 7, 3) := by decide +kernel
theorem dX8_readNumber_85 : decode cX8_readNumber 85 = .ok (.iconst (-1), 1) := by decide +kernel
theorem dX8_readNumber_86 : decode cX8_readNumber 86 = .ok (.goto 4, 3) := by decide +kernel
theorem dX8_readNumber_89 : decode cX8_readNumber 89 = .ok (.iload_n 3, 1) := by decide +kernel
theorem dX8_readNumber_90 : decode cX8_readNumber 90 = .ok (.ireturn, 1) := by decide +kernel
set_option maxRecDepth 20000 in
theorem ggX8_readsRooms_X8_passes : GoodIn wsX8_readsRooms wsX8_passes := goodIn_r _ [6, 7, 8, 9, 10, 5, 11, 12, 13, 14, 15, 16, 17, 18, 19, 20, 21, 22, 23, 24, 25, 26, 27, 28, 29, 30, 31] (by decide +kernel) (by decide +kernel)
set_option maxRecDepth 20000 in
theorem gX8_readsRooms_X8_passes : GoodIn wsX8_readsRooms (wsV RX8 204 RX8 yX8_passes wsX8_passes) := goodIn_app (goodIn_of _ (by decide +kernel)) ggX8_readsRooms_X8_passes
theorem dX8_readsRooms_0 : decode cX8_readsRooms 0 = .ok (.aload_n 0, 1) := by decide +kernel
theorem dX8_readsRooms_1 : decode cX8_readsRooms 1 = .ok (.bipush 104, 2) := by decide +kernel
theorem dX8_readsRooms_3 : decode cX8_readsRooms 3 = .ok (.invokevirtual 204, 3) := by decide +kernel
theorem dX8_readsRooms_6 : decode cX8_readsRooms 6 = .ok (.ifCond .eq 7, 3) := by decide +kernel
theorem dX8_readsRooms_9 : decode cX8_readsRooms 9 = .ok (.iconst 1, 1) := by decide +kernel
theorem dX8_readsRooms_10 : decode cX8_readsRooms 10 = .ok (.goto 4, 3) := by decide +kernel
theorem dX8_readsRooms_13 : decode cX8_readsRooms 13 = .ok (.iconst 0, 1) := by decide +kernel
theorem dX8_readsRooms_14 : decode cX8_readsRooms 14 = .ok (.istore_n 1, 1) := by decide +kernel
theorem dX8_readsRooms_15 : decode cX8_readsRooms 15 = .ok (.iload_n 1, 1) := by decide +kernel
theorem dX8_readsRooms_16 : decode cX8_readsRooms 16 = .ok (.aload_n 0, 1) := by decide +kernel
theorem dX8_readsRooms_17 : decode cX8_readsRooms 17 = .ok (.bipush 107, 2) := by decide +kernel
theorem dX8_readsRooms_19 : decode cX8_readsRooms 19 = .ok (.invokevirtual 204, 3) := by decide +kernel
theorem dX8_readsRooms_22 : decode cX8_readsRooms 22 = .ok (.ifCond .eq 7, 3) := by decide +kernel
theorem dX8_readsRooms_25 : decode cX8_readsRooms 25 = .ok (.iconst 2, 1) := by decide +kernel
theorem dX8_readsRooms_26 : decode cX8_readsRooms 26 = .ok (.goto 4, 3) := by decide +kernel
theorem dX8_readsRooms_29 : decode cX8_readsRooms 29 = .ok (.iconst 0, 1) := by decide +kernel
theorem dX8_readsRooms_30 : decode cX8_readsRooms 30 = .ok (.iadd, 1) := by decide +kernel
theorem dX8_readsRooms_31 : decode cX8_readsRooms 31 = .ok (.istore_n 1, 1) := by decide +kernel
theorem dX8_readsRooms_32 : decode cX8_readsRooms 32 = .ok (.iload_n 1, 1) := by decide +kernel
theorem dX8_readsRooms_33 : decode cX8_readsRooms 33 = .ok (.aload_n 0, 1) := by decide +kernel
theorem dX8_readsRooms_34 : decode cX8_readsRooms 34 = .ok (.bipush 109, 2) := by decide +kernel
theorem dX8_readsRooms_36 : decode cX8_readsRooms 36 = .ok (.invokevirtual 204, 3) := by decide +kernel
theorem dX8_readsRooms_39 : decode cX8_readsRooms 39 = .ok (.ifCond .eq 7, 3) := by decide +kernel
theorem dX8_readsRooms_42 : decode cX8_readsRooms 42 = .ok (.iconst 4, 1) := by decide +kernel
theorem dX8_readsRooms_43 : decode cX8_readsRooms 43 = .ok (.goto 4, 3) := by decide +kernel
theorem dX8_readsRooms_46 : decode cX8_readsRooms 46 = .ok (.iconst 0, 1) := by decide +kernel
theorem dX8_readsRooms_47 : decode cX8_readsRooms 47 = .ok (.iadd, 1) := by decide +kernel
theorem dX8_readsRooms_48 : decode cX8_readsRooms 48 = .ok (.istore_n 1, 1) := by decide +kernel
theorem dX8_readsRooms_49 : decode cX8_readsRooms 49 = .ok (.aload_n 0, 1) := by decide +kernel
theorem dX8_readsRooms_50 : decode cX8_readsRooms 50 = .ok (.iload_n 1, 1) := by decide +kernel
theorem dX8_readsRooms_51 : decode cX8_readsRooms 51 = .ok (.putfield 207, 3) := by decide +kernel
theorem dX8_readsRooms_54 : decode cX8_readsRooms 54 = .ok (.iload_n 1, 1) := by decide +kernel
theorem dX8_readsRooms_55 : decode cX8_readsRooms 55 = .ok (.ifCond .le 7, 3) := by decide +kernel
theorem dX8_readsRooms_58 : decode cX8_readsRooms 58 = .ok (.iconst 1, 1) := by decide +kernel
theorem dX8_readsRooms_59 : decode cX8_readsRooms 59 = .ok (.goto 4, 3) := by decide +kernel
theorem dX8_readsRooms_62 : decode cX8_readsRooms 62 = .ok (.iconst 0, 1) := by decide +kernel
theorem dX8_readsRooms_63 : decode cX8_readsRooms 63 = .ok (.ireturn, 1) := by decide +kernel
set_option maxRecDepth 20000 in
theorem ggX8_readsHire_X8_readNumber : GoodIn wsX8_readsHire wsX8_readNumber := goodIn_r _ [11, 12, 13, 14, 15, 16, 17, 10, 18, 19, 20, 21, 22, 23, 33, 34, 35, 36, 37, 38, 39, 40, 41, 42, 43, 44, 45, 46, 47, 48, 49, 50] (by decide +kernel) (by decide +kernel)
set_option maxRecDepth 20000 in
theorem gX8_readsHire_X8_readNumber : GoodIn wsX8_readsHire (wsV RX8 210 RX8 yX8_readNumber wsX8_readNumber) := goodIn_app (goodIn_of _ (by decide +kernel)) ggX8_readsHire_X8_readNumber
set_option maxRecDepth 20000 in
theorem ggX8_readsHire_X8_passes : GoodIn wsX8_readsHire wsX8_passes := goodIn_r _ [27, 12, 15, 16, 17, 10, 18, 19, 20, 33, 34, 35, 36, 37, 38, 39, 40, 41, 42, 43, 44, 45, 46, 47, 48, 49, 50] (by decide +kernel) (by decide +kernel)
set_option maxRecDepth 20000 in
theorem gX8_readsHire_X8_passes : GoodIn wsX8_readsHire (wsV RX8 204 RX8 yX8_passes wsX8_passes) := goodIn_app (goodIn_of _ (by decide +kernel)) ggX8_readsHire_X8_passes
set_option maxRecDepth 20000 in
theorem ggX8_readsHire_X8_readsRooms : GoodIn wsX8_readsHire wsX8_readsRooms := goodIn_r _ [31, 32, 24, 25, 26, 10, 27, 12, 15, 16, 17, 18, 19, 20, 33, 34, 35, 36, 37, 38, 39, 40, 41, 42, 43, 44, 45, 46, 47, 48, 49, 50] (by decide +kernel) (by decide +kernel)
set_option maxRecDepth 20000 in
theorem gX8_readsHire_X8_readsRooms : GoodIn wsX8_readsHire (wsV RX8 225 RX8 yX8_readsRooms wsX8_readsRooms) := goodIn_app (goodIn_of _ (by decide +kernel)) ggX8_readsHire_X8_readsRooms
theorem dX8_readsHire_0 : decode cX8_readsHire 0 = .ok (.aload_n 0, 1) := by decide +kernel
theorem dX8_readsHire_1 : decode cX8_readsHire 1 = .ok (.aload_n 0, 1) := by decide +kernel
theorem dX8_readsHire_2 : decode cX8_readsHire 2 = .ok (.iconst 1, 1) := by decide +kernel
theorem dX8_readsHire_3 : decode cX8_readsHire 3 = .ok (.invokevirtual 210, 3) := by decide +kernel
theorem dX8_readsHire_6 : decode cX8_readsHire 6 = .ok (.putfield 213, 3) := by decide +kernel
theorem dX8_readsHire_9 : decode cX8_readsHire 9 = .ok (.aload_n 0, 1) := by decide +kernel
theorem dX8_readsHire_10 : decode cX8_readsHire 10 = .ok (.getfield 213, 3) := by decide +kernel
theorem dX8_readsHire_13 : decode cX8_readsHire 13 = .ok (.iconst (-1), 1) := by decide +kernel
theorem dX8_readsHire_14 : decode cX8_readsHire 14 = .ok (.if_icmp .eq 12, 3) := by decide +kernel
theorem dX8_readsHire_17 : decode cX8_readsHire 17 = .ok (.aload_n 0, 1) := by decide +kernel
theorem dX8_readsHire_18 : decode cX8_readsHire 18 = .ok (.bipush 58, 2) := by decide +kernel
theorem dX8_readsHire_20 : decode cX8_readsHire 20 = .ok (.invokevirtual 204, 3) := by decide +kernel
theorem dX8_readsHire_23 : decode cX8_readsHire 23 = .ok (.ifCond .ne 5, 3) := by decide +kernel
theorem dX8_readsHire_26 : decode cX8_readsHire 26 = .ok (.iconst 0, 1) := by decide +kernel
theorem dX8_readsHire_27 : decode cX8_readsHire 27 = .ok (.ireturn, 1) := by decide +kernel
theorem dX8_readsHire_28 : decode cX8_readsHire 28 = .ok (.aload_n 0, 1) := by decide +kernel
theorem dX8_readsHire_29 : decode cX8_readsHire 29 = .ok (.aload_n 0, 1) := by decide +kernel
theorem dX8_readsHire_30 : decode cX8_readsHire 30 = .ok (.iconst 3, 1) := by decide +kernel
theorem dX8_readsHire_31 : decode cX8_readsHire 31 = .ok (.invokevirtual 210, 3) := by decide +kernel
theorem dX8_readsHire_34 : decode cX8_readsHire 34 = .ok (.putfield 216, 3) := by decide +kernel
theorem dX8_readsHire_37 : decode cX8_readsHire 37 = .ok (.aload_n 0, 1) := by decide +kernel
theorem dX8_readsHire_38 : decode cX8_readsHire 38 = .ok (.getfield 216, 3) := by decide +kernel
theorem dX8_readsHire_41 : decode cX8_readsHire 41 = .ok (.iconst (-1), 1) := by decide +kernel
theorem dX8_readsHire_42 : decode cX8_readsHire 42 = .ok (.if_icmp .eq 12, 3) := by decide +kernel
theorem dX8_readsHire_45 : decode cX8_readsHire 45 = .ok (.aload_n 0, 1) := by decide +kernel
theorem dX8_readsHire_46 : decode cX8_readsHire 46 = .ok (.bipush 64, 2) := by decide +kernel
theorem dX8_readsHire_48 : decode cX8_readsHire 48 = .ok (.invokevirtual 204, 3) := by decide +kernel
theorem dX8_readsHire_51 : decode cX8_readsHire 51 = .ok (.ifCond .ne 5, 3) := by decide +kernel
theorem dX8_readsHire_54 : decode cX8_readsHire 54 = .ok (.iconst 0, 1) := by decide +kernel
theorem dX8_readsHire_55 : decode cX8_readsHire 55 = .ok (.ireturn, 1) := by decide +kernel
theorem dX8_readsHire_56 : decode cX8_readsHire 56 = .ok (.aload_n 0, 1) := by decide +kernel
theorem dX8_readsHire_57 : decode cX8_readsHire 57 = .ok (.aload_n 0, 1) := by decide +kernel
theorem dX8_readsHire_58 : decode cX8_readsHire 58 = .ok (.iconst 3, 1) := by decide +kernel
theorem dX8_readsHire_59 : decode cX8_readsHire 59 = .ok (.invokevirtual 210, 3) := by decide +kernel
theorem dX8_readsHire_62 : decode cX8_readsHire 62 = .ok (.putfield 219, 3) := by decide +kernel
theorem dX8_readsHire_65 : decode cX8_readsHire 65 = .ok (.aload_n 0, 1) := by decide +kernel
theorem dX8_readsHire_66 : decode cX8_readsHire 66 = .ok (.getfield 219, 3) := by decide +kernel
theorem dX8_readsHire_69 : decode cX8_readsHire 69 = .ok (.iconst (-1), 1) := by decide +kernel
theorem dX8_readsHire_70 : decode cX8_readsHire 70 = .ok (.if_icmp .eq 12, 3) := by decide +kernel
theorem dX8_readsHire_73 : decode cX8_readsHire 73 = .ok (.aload_n 0, 1) := by decide +kernel
theorem dX8_readsHire_74 : decode cX8_readsHire 74 = .ok (.bipush 45, 2) := by decide +kernel
theorem dX8_readsHire_76 : decode cX8_readsHire 76 = .ok (.invokevirtual 204, 3) := by decide +kernel
theorem dX8_readsHire_79 : decode cX8_readsHire 79 = .ok (.ifCond .ne 5, 3) := by decide +kernel
theorem dX8_readsHire_82 : decode cX8_readsHire 82 = .ok (.iconst 0, 1) := by decide +kernel
theorem dX8_readsHire_83 : decode cX8_readsHire 83 = .ok (.ireturn, 1) := by decide +kernel
theorem dX8_readsHire_84 : decode cX8_readsHire 84 = .ok (.aload_n 0, 1) := by decide +kernel
theorem dX8_readsHire_85 : decode cX8_readsHire 85 = .ok (.aload_n 0, 1) := by decide +kernel
theorem dX8_readsHire_86 : decode cX8_readsHire 86 = .ok (.iconst 3, 1) := by decide +kernel
theorem dX8_readsHire_87 : decode cX8_readsHire 87 = .ok (.invokevirtual 210, 3) := by decide +kernel
theorem dX8_readsHire_90 : decode cX8_readsHire 90 = .ok (.putfield 222, 3) := by decide +kernel
theorem dX8_readsHire_93 : decode cX8_readsHire 93 = .ok (.aload_n 0, 1) := by decide +kernel
theorem dX8_readsHire_94 : decode cX8_readsHire 94 = .ok (.getfield 222, 3) := by decide +kernel
theorem dX8_readsHire_97 : decode cX8_readsHire 97 = .ok (.iconst (-1), 1) := by decide +kernel
theorem dX8_readsHire_98 : decode cX8_readsHire 98 = .ok (.if_icmp .eq 19, 3) := by decide +kernel
theorem dX8_readsHire_101 : decode cX8_readsHire 101 = .ok (.aload_n 0, 1) := by decide +kernel
theorem dX8_readsHire_102 : decode cX8_readsHire 102 = .ok (.bipush 47, 2) := by decide +kernel
theorem dX8_readsHire_104 : decode cX8_readsHire 104 = .ok (.invokevirtual 204, 3) := by decide +kernel
theorem dX8_readsHire_107 : decode cX8_readsHire 107 = .ok (.ifCond .eq 10, 3) := by decide +kernel
theorem dX8_readsHire_110 : decode cX8_readsHire 110 = .ok (.aload_n 0, 1) := by decide +kernel
theorem dX8_readsHire_111 : decode cX8_readsHire 111 = .ok (.invokevirtual 225, 3) := by decide +kernel
theorem dX8_readsHire_114 : decode cX8_readsHire 114 = .ok (.ifCond .ne 5, 3) := by decide +kernel
theorem dX8_readsHire_117 : decode cX8_readsHire 117 = .ok (.iconst 0, 1) := by decide +kernel
theorem dX8_readsHire_118 : decode cX8_readsHire 118 = .ok (.ireturn, 1) := by decide +kernel
theorem dX8_readsHire_119 : decode cX8_readsHire 119 = .ok (.aload_n 0, 1) := by decide +kernel
theorem dX8_readsHire_120 : decode cX8_readsHire 120 = .ok (.iconst 1, 1) := by decide +kernel
theorem dX8_readsHire_121 : decode cX8_readsHire 121 = .ok (.putfield 229, 3) := by decide +kernel
theorem dX8_readsHire_124 : decode cX8_readsHire 124 = .ok (.aload_n 0, 1) := by decide +kernel
theorem dX8_readsHire_125 : decode cX8_readsHire 125 = .ok (.iconst 1, 1) := by decide +kernel
theorem dX8_readsHire_126 : decode cX8_readsHire 126 = .ok (.putfield 232, 3) := by decide +kernel
theorem dX8_readsHire_129 : decode cX8_readsHire 129 = .ok (.aload_n 0, 1) := by decide +kernel
theorem dX8_readsHire_130 : decode cX8_readsHire 130 = .ok (.bipush 120, 2) := by decide +kernel
theorem dX8_readsHire_132 : decode cX8_readsHire 132 = .ok (.invokevirtual 204, 3) := by decide +kernel
theorem dX8_readsHire_135 : decode cX8_readsHire 135 = .ok (.ifCond .eq 40, 3) := by decide +kernel
theorem dX8_readsHire_138 : decode cX8_readsHire 138 = .ok (.aload_n 0, 1) := by decide +kernel
theorem dX8_readsHire_139 : decode cX8_readsHire 139 = .ok (.aload_n 0, 1) := by decide +kernel
theorem dX8_readsHire_140 : decode cX8_readsHire 140 = .ok (.iconst 3, 1) := by decide +kernel
theorem dX8_readsHire_141 : decode cX8_readsHire 141 = .ok (.invokevirtual 210, 3) := by decide +kernel
theorem dX8_readsHire_144 : decode cX8_readsHire 144 = .ok (.putfield 229, 3) := by decide +kernel
theorem dX8_readsHire_147 : decode cX8_readsHire 147 = .ok (.aload_n 0, 1) := by decide +kernel
theorem dX8_readsHire_148 : decode cX8_readsHire 148 = .ok (.getfield 229, 3) := by decide +kernel
theorem dX8_readsHire_151 : decode cX8_readsHire 151 = .ok (.iconst (-1), 1) := by decide +kernel
theorem dX8_readsHire_152 : decode cX8_readsHire 152 = .ok (.if_icmp .eq 12, 3) := by decide +kernel
theorem dX8_readsHire_155 : decode cX8_readsHire 155 = .ok (.aload_n 0, 1) := by decide +kernel
theorem dX8_readsHire_156 : decode cX8_readsHire 156 = .ok (.bipush 43, 2) := by decide +kernel
theorem dX8_readsHire_158 : decode cX8_readsHire 158 = .ok (.invokevirtual 204, 3) := by decide +kernel
theorem dX8_readsHire_161 : decode cX8_readsHire 161 = .ok (.ifCond .ne 5, 3) := by decide +kernel
theorem dX8_readsHire_164 : decode cX8_readsHire 164 = .ok (.iconst 0, 1) := by decide +kernel
theorem dX8_readsHire_165 : decode cX8_readsHire 165 = .ok (.ireturn, 1) := by decide +kernel
theorem dX8_readsHire_166 : decode cX8_readsHire 166 = .ok (.aload_n 0, 1) := by decide +kernel
theorem dX8_readsHire_167 : decode cX8_readsHire 167 = .ok (.aload_n 0, 1) := by decide +kernel
theorem dX8_readsHire_168 : decode cX8_readsHire 168 = .ok (.iconst 3, 1) := by decide +kernel
theorem dX8_readsHire_169 : decode cX8_readsHire 169 = .ok (.invokevirtual 210, 3) := by decide +kernel
theorem dX8_readsHire_172 : decode cX8_readsHire 172 = .ok (.putfield 232, 3) := by decide +kernel
theorem dX8_readsHire_175 : decode cX8_readsHire 175 = .ok (.aload_n 0, 1) := by decide +kernel
theorem dX8_readsHire_176 : decode cX8_readsHire 176 = .ok (.getfield 232, 3) := by decide +kernel
theorem dX8_readsHire_179 : decode cX8_readsHire 179 = .ok (.iconst (-1), 1) := by decide +kernel
theorem dX8_readsHire_180 : decode cX8_readsHire 180 = .ok (.if_icmp .eq 16, 3) := by decide +kernel
theorem dX8_readsHire_183 : decode cX8_readsHire 183 = .ok (.aload_n 0, 1) := by decide +kernel
theorem dX8_readsHire_184 : decode cX8_readsHire 184 = .ok (.bipush 59, 2) := by decide +kernel
theorem dX8_readsHire_186 : decode cX8_readsHire 186 = .ok (.invokevirtual 204, 3) := by decide +kernel
theorem dX8_readsHire_189 : decode cX8_readsHire 189 = .ok (.ifCond .eq 7, 3) := by decide +kernel
theorem dX8_readsHire_192 : decode cX8_readsHire 192 = .ok (.iconst 1, 1) := by decide +kernel
theorem dX8_readsHire_193 : decode cX8_readsHire 193 = .ok (.goto 4, 3) := by decide +kernel
theorem dX8_readsHire_196 : decode cX8_readsHire 196 = .ok (.iconst 0, 1) := by decide +kernel
theorem dX8_readsHire_197 : decode cX8_readsHire 197 = .ok (.ireturn, 1) := by decide +kernel
set_option maxRecDepth 20000 in
theorem ggX8_reasonOf_X8_isHirer : GoodIn wsX8_reasonOf wsX8_isHirer := goodIn_r _ [17, 9, 18, 19, 16, 20, 48, 49, 50, 51, 52, 53, 54, 55, 56, 57, 58, 59, 60, 61, 62, 63, 64, 65] (by decide +kernel) (by decide +kernel)
set_option maxRecDepth 20000 in
theorem gX8_reasonOf_X8_isHirer : GoodIn wsX8_reasonOf (wsV RX8 56 RX8 yX8_isHirer wsX8_isHirer) := goodIn_app (goodIn_of _ (by decide +kernel)) ggX8_reasonOf_X8_isHirer
set_option maxRecDepth 20000 in
theorem ggX8_reasonOf_X8_in : GoodIn wsX8_reasonOf wsX8_in := goodIn_r _ [20] (by decide +kernel) (by decide +kernel)
set_option maxRecDepth 20000 in
theorem gX8_reasonOf_X8_in : GoodIn wsX8_reasonOf (va_wsS RX8 30 yX8_in wsX8_in) := goodIn_app (goodIn_of _ (by decide +kernel)) ggX8_reasonOf_X8_in
set_option maxRecDepth 20000 in
theorem ggX8_reasonOf_X8_clashOfAll : GoodIn wsX8_reasonOf wsX8_clashOfAll := goodIn_r _ [24, 25, 26, 27, 16, 28, 9, 29, 30, 31, 32, 33, 34, 35, 36, 37, 38, 39, 40, 41, 42, 43, 44, 45, 46, 47, 48, 49, 50, 51, 52, 53, 54, 55, 56, 57, 58, 59, 60, 61, 62, 63, 64, 65] (by decide +kernel) (by decide +kernel)
set_option maxRecDepth 20000 in
theorem gX8_reasonOf_X8_clashOfAll : GoodIn wsX8_reasonOf (wsV RX8 120 RX8 yX8_clashOfAll wsX8_clashOfAll) := goodIn_app (goodIn_of _ (by decide +kernel)) ggX8_reasonOf_X8_clashOfAll
theorem dX8_reasonOf_0 : decode cX8_reasonOf 0 = .ok (.aload_n 0, 1) := by decide +kernel
theorem dX8_reasonOf_1 : decode cX8_reasonOf 1 = .ok (.aload_n 0, 1) := by decide +kernel
theorem dX8_reasonOf_2 : decode cX8_reasonOf 2 = .ok (.getfield 213, 3) := by decide +kernel
theorem dX8_reasonOf_5 : decode cX8_reasonOf 5 = .ok (.invokevirtual 56, 3) := by decide +kernel
theorem dX8_reasonOf_8 : decode cX8_reasonOf 8 = .ok (.ifCond .ne 5, 3) := by decide +kernel
theorem dX8_reasonOf_11 : decode cX8_reasonOf 11 = .ok (.iconst 2, 1) := by decide +kernel
theorem dX8_reasonOf_12 : decode cX8_reasonOf 12 = .ok (.ireturn, 1) := by decide +kernel
theorem dX8_reasonOf_13 : decode cX8_reasonOf 13 = .ok (.aload_n 0, 1) := by decide +kernel
theorem dX8_reasonOf_14 : decode cX8_reasonOf 14 = .ok (.getfield 219, 3) := by decide +kernel
theorem dX8_reasonOf_17 : decode cX8_reasonOf 17 = .ok (.aload_n 0, 1) := by decide +kernel
theorem dX8_reasonOf_18 : decode cX8_reasonOf 18 = .ok (.getfield 222, 3) := by decide +kernel
theorem dX8_reasonOf_21 : decode cX8_reasonOf 21 = .ok (.if_icmp .ge 16, 3) := by decide +kernel
theorem dX8_reasonOf_24 : decode cX8_reasonOf 24 = .ok (.aload_n 0, 1) := by decide +kernel
theorem dX8_reasonOf_25 : decode cX8_reasonOf 25 = .ok (.getfield 222, 3) := by decide +kernel
theorem dX8_reasonOf_28 : decode cX8_reasonOf 28 = .ok (.bipush 24, 2) := by decide +kernel
theorem dX8_reasonOf_30 : decode cX8_reasonOf 30 = .ok (.if_icmp .gt 7, 3) := by decide +kernel
theorem dX8_reasonOf_33 : decode cX8_reasonOf 33 = .ok (.iconst 1, 1) := by decide +kernel
theorem dX8_reasonOf_34 : decode cX8_reasonOf 34 = .ok (.goto 4, 3) := by decide +kernel
theorem dX8_reasonOf_37 : decode cX8_reasonOf 37 = .ok (.iconst 0, 1) := by decide +kernel
theorem dX8_reasonOf_38 : decode cX8_reasonOf 38 = .ok (.istore_n 1, 1) := by decide +kernel
theorem dX8_reasonOf_39 : decode cX8_reasonOf 39 = .ok (.aload_n 0, 1) := by decide +kernel
theorem dX8_reasonOf_40 : decode cX8_reasonOf 40 = .ok (.getfield 229, 3) := by decide +kernel
theorem dX8_reasonOf_43 : decode cX8_reasonOf 43 = .ok (.i2l, 1) := by decide +kernel
theorem dX8_reasonOf_44 : decode cX8_reasonOf 44 = .ok (.lconst 1, 1) := by decide +kernel
theorem dX8_reasonOf_45 : decode cX8_reasonOf 45 = .ok (.ldc2_w 88, 3) := by decide +kernel
theorem dX8_reasonOf_48 : decode cX8_reasonOf 48 = .ok (.invokestatic 30, 3) := by decide +kernel
theorem dX8_reasonOf_51 : decode cX8_reasonOf 51 = .ok (.ifCond .eq 22, 3) := by decide +kernel
theorem dX8_reasonOf_54 : decode cX8_reasonOf 54 = .ok (.aload_n 0, 1) := by decide +kernel
theorem dX8_reasonOf_55 : decode cX8_reasonOf 55 = .ok (.getfield 232, 3) := by decide +kernel
theorem dX8_reasonOf_58 : decode cX8_reasonOf 58 = .ok (.i2l, 1) := by decide +kernel
theorem dX8_reasonOf_59 : decode cX8_reasonOf 59 = .ok (.lconst 1, 1) := by decide +kernel
theorem dX8_reasonOf_60 : decode cX8_reasonOf 60 = .ok (.ldc2_w 113, 3) := by decide +kernel
theorem dX8_reasonOf_63 : decode cX8_reasonOf 63 = .ok (.invokestatic 30, 3) := by decide +kernel
theorem dX8_reasonOf_66 : decode cX8_reasonOf 66 = .ok (.ifCond .eq 7, 3) := by decide +kernel
theorem dX8_reasonOf_69 : decode cX8_reasonOf 69 = .ok (.iconst 1, 1) := by decide +kernel
theorem dX8_reasonOf_70 : decode cX8_reasonOf 70 = .ok (.goto 4, 3) := by decide +kernel
theorem dX8_reasonOf_73 : decode cX8_reasonOf 73 = .ok (.iconst 0, 1) := by decide +kernel
theorem dX8_reasonOf_74 : decode cX8_reasonOf 74 = .ok (.istore_n 2, 1) := by decide +kernel
theorem dX8_reasonOf_75 : decode cX8_reasonOf 75 = .ok (.iload_n 1, 1) := by decide +kernel
theorem dX8_reasonOf_76 : decode cX8_reasonOf 76 = .ok (.ifCond .eq 50, 3) := by decide +kernel
theorem dX8_reasonOf_79 : decode cX8_reasonOf 79 = .ok (.iload_n 2, 1) := by decide +kernel
theorem dX8_reasonOf_80 : decode cX8_reasonOf 80 = .ok (.ifCond .eq 46, 3) := by decide +kernel
theorem dX8_reasonOf_83 : decode cX8_reasonOf 83 = .ok (.aload_n 0, 1) := by decide +kernel
theorem dX8_reasonOf_84 : decode cX8_reasonOf 84 = .ok (.getfield 216, 3) := by decide +kernel
theorem dX8_reasonOf_87 : decode cX8_reasonOf 87 = .ok (.i2l, 1) := by decide +kernel
theorem dX8_reasonOf_88 : decode cX8_reasonOf 88 = .ok (.aload_n 0, 1) := by decide +kernel
theorem dX8_reasonOf_89 : decode cX8_reasonOf 89 = .ok (.getfield 7, 3) := by decide +kernel
theorem dX8_reasonOf_92 : decode cX8_reasonOf 92 = .ok (.iconst 0, 1) := by decide +kernel
theorem dX8_reasonOf_93 : decode cX8_reasonOf 93 = .ok (.iaload, 1) := by decide +kernel
theorem dX8_reasonOf_94 : decode cX8_reasonOf 94 = .ok (.i2l, 1) := by decide +kernel
theorem dX8_reasonOf_95 : decode cX8_reasonOf 95 = .ok (.ldc2_w 111, 3) := by decide +kernel
theorem dX8_reasonOf_98 : decode cX8_reasonOf 98 = .ok (.invokestatic 30, 3) := by decide +kernel
theorem dX8_reasonOf_101 : decode cX8_reasonOf 101 = .ok (.ifCond .eq 25, 3) := by decide +kernel
theorem dX8_reasonOf_104 : decode cX8_reasonOf 104 = .ok (.aload_n 0, 1) := by decide +kernel
theorem dX8_reasonOf_105 : decode cX8_reasonOf 105 = .ok (.getfield 216, 3) := by decide +kernel
theorem dX8_reasonOf_108 : decode cX8_reasonOf 108 = .ok (.aload_n 0, 1) := by decide +kernel
theorem dX8_reasonOf_109 : decode cX8_reasonOf 109 = .ok (.getfield 229, 3) := by decide +kernel
theorem dX8_reasonOf_112 : decode cX8_reasonOf 112 = .ok (.iconst 1, 1) := by decide +kernel
theorem dX8_reasonOf_113 : decode cX8_reasonOf 113 = .ok (.isub, 1) := by decide +kernel
theorem dX8_reasonOf_114 : decode cX8_reasonOf 114 = .ok (.aload_n 0, 1) := by decide +kernel
theorem dX8_reasonOf_115 : decode cX8_reasonOf 115 = .ok (.getfield 232, 3) := by decide +kernel
theorem dX8_reasonOf_118 : decode cX8_reasonOf 118 = .ok (.imul, 1) := by decide +kernel
theorem dX8_reasonOf_119 : decode cX8_reasonOf 119 = .ok (.iadd, 1) := by decide +kernel
theorem dX8_reasonOf_120 : decode cX8_reasonOf 120 = .ok (.sipush 364, 3) := by decide +kernel
theorem dX8_reasonOf_123 : decode cX8_reasonOf 123 = .ok (.if_icmp .le 5, 3) := by decide +kernel
theorem dX8_reasonOf_126 : decode cX8_reasonOf 126 = .ok (.iconst 3, 1) := by decide +kernel
theorem dX8_reasonOf_127 : decode cX8_reasonOf 127 = .ok (.ireturn, 1) := by decide +kernel
theorem dX8_reasonOf_128 : decode cX8_reasonOf 128 = .ok (.aload_n 0, 1) := by decide +kernel
theorem dX8_reasonOf_129 : decode cX8_reasonOf 129 = .ok (.aload_n 0, 1) := by decide +kernel
theorem dX8_reasonOf_130 : decode cX8_reasonOf 130 = .ok (.aload_n 0, 1) := by decide +kernel
theorem dX8_reasonOf_131 : decode cX8_reasonOf 131 = .ok (.getfield 213, 3) := by decide +kernel
theorem dX8_reasonOf_134 : decode cX8_reasonOf 134 = .ok (.aload_n 0, 1) := by decide +kernel
theorem dX8_reasonOf_135 : decode cX8_reasonOf 135 = .ok (.getfield 207, 3) := by decide +kernel
theorem dX8_reasonOf_138 : decode cX8_reasonOf 138 = .ok (.aload_n 0, 1) := by decide +kernel
theorem dX8_reasonOf_139 : decode cX8_reasonOf 139 = .ok (.getfield 216, 3) := by decide +kernel
theorem dX8_reasonOf_142 : decode cX8_reasonOf 142 = .ok (.aload_n 0, 1) := by decide +kernel
theorem dX8_reasonOf_143 : decode cX8_reasonOf 143 = .ok (.getfield 219, 3) := by decide +kernel
theorem dX8_reasonOf_146 : decode cX8_reasonOf 146 = .ok (.aload_n 0, 1) := by decide +kernel
theorem dX8_reasonOf_147 : decode cX8_reasonOf 147 = .ok (.getfield 222, 3) := by decide +kernel
theorem dX8_reasonOf_150 : decode cX8_reasonOf 150 = .ok (.aload_n 0, 1) := by decide +kernel
theorem dX8_reasonOf_151 : decode cX8_reasonOf 151 = .ok (.getfield 229, 3) := by decide +kernel
theorem dX8_reasonOf_154 : decode cX8_reasonOf 154 = .ok (.aload_n 0, 1) := by decide +kernel
theorem dX8_reasonOf_155 : decode cX8_reasonOf 155 = .ok (.getfield 232, 3) := by decide +kernel
theorem dX8_reasonOf_158 : decode cX8_reasonOf 158 = .ok (.invokevirtual 120, 3) := by decide +kernel
theorem dX8_reasonOf_161 : decode cX8_reasonOf 161 = .ok (.putfield 235, 3) := by decide +kernel
theorem dX8_reasonOf_164 : decode cX8_reasonOf 164 = .ok (.aload_n 0, 1) := by decide +kernel
theorem dX8_reasonOf_165 : decode cX8_reasonOf 165 = .ok (.getfield 235, 3) := by decide +kernel
theorem dX8_reasonOf_168 : decode cX8_reasonOf 168 = .ok (.iconst (-1), 1) := by decide +kernel
theorem dX8_reasonOf_169 : decode cX8_reasonOf 169 = .ok (.if_icmp .eq 7, 3) := by decide +kernel
theorem dX8_reasonOf_172 : decode cX8_reasonOf 172 = .ok (.iconst 4, 1) := by decide +kernel
theorem dX8_reasonOf_173 : decode cX8_reasonOf 173 = .ok (.goto 20, 3) := by decide +kernel
theorem dX8_reasonOf_176 : decode cX8_reasonOf 176 = .ok (.aload_n 0, 1) := by decide +kernel
theorem dX8_reasonOf_177 : decode cX8_reasonOf 177 = .ok (.getfield 7, 3) := by decide +kernel
theorem dX8_reasonOf_180 : decode cX8_reasonOf 180 = .ok (.bipush 10, 2) := by decide +kernel
theorem dX8_reasonOf_182 : decode cX8_reasonOf 182 = .ok (.iaload, 1) := by decide +kernel
theorem dX8_reasonOf_183 : decode cX8_reasonOf 183 = .ok (.bipush 12, 2) := by decide +kernel
theorem dX8_reasonOf_185 : decode cX8_reasonOf 185 = .ok (.if_icmp .ne 7, 3) := by decide +kernel
theorem dX8_reasonOf_188 : decode cX8_reasonOf 188 = .ok (.iconst 5, 1) := by decide +kernel
theorem dX8_reasonOf_189 : decode cX8_reasonOf 189 = .ok (.goto 4, 3) := by decide +kernel
theorem dX8_reasonOf_192 : decode cX8_reasonOf 192 = .ok (.iconst 0, 1) := by decide +kernel
theorem dX8_reasonOf_193 : decode cX8_reasonOf 193 = .ok (.ireturn, 1) := by decide +kernel
set_option maxRecDepth 20000 in
theorem ggX8_makesAll_X8_readsHire : GoodIn wsX8_makesAll wsX8_readsHire := goodIn_r _ [16, 5, 7, 8, 9, 10, 11, 17, 18, 19, 15, 20, 1, 21, 22, 23, 24, 25, 26, 4, 27, 28, 29, 30, 31, 32, 33, 34, 35, 36, 37, 38, 6, 98, 99, 100, 101, 102, 103, 104, 105, 106, 107, 108, 109, 110, 111, 112, 113, 114, 115] (by decide +kernel) (by decide +kernel)
set_option maxRecDepth 20000 in
theorem gX8_makesAll_X8_readsHire : GoodIn wsX8_makesAll (wsV RX8 244 RX8 yX8_readsHire wsX8_readsHire) := goodIn_app (goodIn_of _ (by decide +kernel)) ggX8_makesAll_X8_readsHire
set_option maxRecDepth 20000 in
theorem ggX8_makesAll_X8_reasonOf : GoodIn wsX8_makesAll wsX8_reasonOf := goodIn_r _ [42, 5, 8, 9, 10, 43, 11, 44, 7, 45, 46, 6, 47, 48, 49, 50, 15, 51, 28, 29, 30, 52, 53, 54, 55, 56, 57, 58, 59, 60, 61, 62, 63, 64, 65, 66, 67, 68, 69, 70, 71, 72, 73, 74, 75, 76, 77, 78, 98, 99, 100, 101, 102, 103, 104, 105, 106, 107, 108, 109, 110, 111, 112, 113, 114, 115] (by decide +kernel) (by decide +kernel)
set_option maxRecDepth 20000 in
theorem gX8_makesAll_X8_reasonOf : GoodIn wsX8_makesAll (wsV RX8 247 RX8 yX8_reasonOf wsX8_reasonOf) := goodIn_app (goodIn_of _ (by decide +kernel)) ggX8_makesAll_X8_reasonOf
set_option maxRecDepth 20000 in
theorem ggX8_makesAll_X8_makes : GoodIn wsX8_makesAll wsX8_makes := goodIn_r _ [82, 45, 83, 84, 85, 15, 86, 87, 88, 89, 90, 91, 92, 93, 64, 65, 66, 94, 95, 96, 97, 98, 99, 100, 101, 102, 103, 104, 105, 106, 107, 108, 109, 110, 111, 112, 113, 114, 115] (by decide +kernel) (by decide +kernel)
set_option maxRecDepth 20000 in
theorem gX8_makesAll_X8_makes : GoodIn wsX8_makesAll (wsV RX8 124 RX8 yX8_makes wsX8_makes) := goodIn_app (goodIn_of _ (by decide +kernel)) ggX8_makesAll_X8_makes
theorem dX8_makesAll_0 : decode cX8_makesAll 0 = .ok (.aload_n 0, 1) := by decide +kernel
theorem dX8_makesAll_1 : decode cX8_makesAll 1 = .ok (.iconst 0, 1) := by decide +kernel
theorem dX8_makesAll_2 : decode cX8_makesAll 2 = .ok (.putfield 194, 3) := by decide +kernel
theorem dX8_makesAll_5 : decode cX8_makesAll 5 = .ok (.aload_n 0, 1) := by decide +kernel
theorem dX8_makesAll_6 : decode cX8_makesAll 6 = .ok (.iconst 0, 1) := by decide +kernel
theorem dX8_makesAll_7 : decode cX8_makesAll 7 = .ok (.putfield 238, 3) := by decide +kernel
theorem dX8_makesAll_10 : decode cX8_makesAll 10 = .ok (.aload_n 0, 1) := by decide +kernel
theorem dX8_makesAll_11 : decode cX8_makesAll 11 = .ok (.iconst 0, 1) := by decide +kernel
theorem dX8_makesAll_12 : decode cX8_makesAll 12 = .ok (.putfield 241, 3) := by decide +kernel
theorem dX8_makesAll_15 : decode cX8_makesAll 15 = .ok (.aload_n 0, 1) := by decide +kernel
theorem dX8_makesAll_16 : decode cX8_makesAll 16 = .ok (.getfield 194, 3) := by decide +kernel
theorem dX8_makesAll_19 : decode cX8_makesAll 19 = .ok (.aload_n 0, 1) := by decide +kernel
theorem dX8_makesAll_20 : decode cX8_makesAll 20 = .ok (.getfield 174, 3) := by decide +kernel
theorem dX8_makesAll_23 : decode cX8_makesAll 23 = .ok (.if_icmp .ge 81, 3) := by decide +kernel
theorem dX8_makesAll_26 : decode cX8_makesAll 26 = .ok (.aload_n 0, 1) := by decide +kernel
theorem dX8_makesAll_27 : decode cX8_makesAll 27 = .ok (.getfield 194, 3) := by decide +kernel
theorem dX8_makesAll_30 : decode cX8_makesAll 30 = .ok (.istore_n 1, 1) := by decide +kernel
theorem dX8_makesAll_31 : decode cX8_makesAll 31 = .ok (.aload_n 0, 1) := by decide +kernel
theorem dX8_makesAll_32 : decode cX8_makesAll 32 = .ok (.aload_n 0, 1) := by decide +kernel
theorem dX8_makesAll_33 : decode cX8_makesAll 33 = .ok (.invokevirtual 244, 3) := by decide +kernel
theorem dX8_makesAll_36 : decode cX8_makesAll 36 = .ok (.ifCond .eq 10, 3) := by decide +kernel
theorem dX8_makesAll_39 : decode cX8_makesAll 39 = .ok (.aload_n 0, 1) := by decide +kernel
theorem dX8_makesAll_40 : decode cX8_makesAll 40 = .ok (.invokevirtual 247, 3) := by decide +kernel
theorem dX8_makesAll_43 : decode cX8_makesAll 43 = .ok (.goto 4, 3) := by decide +kernel
theorem dX8_makesAll_46 : decode cX8_makesAll 46 = .ok (.iconst 1, 1) := by decide +kernel
theorem dX8_makesAll_47 : decode cX8_makesAll 47 = .ok (.putfield 241, 3) := by decide +kernel
theorem dX8_makesAll_50 : decode cX8_makesAll 50 = .ok (.aload_n 0, 1) := by decide +kernel
theorem dX8_makesAll_51 : decode cX8_makesAll 51 = .ok (.getfield 241, 3) := by decide +kernel
theorem dX8_makesAll_54 : decode cX8_makesAll 54 = .ok (.ifCond .eq 5, 3) := by decide +kernel
theorem dX8_makesAll_57 : decode cX8_makesAll 57 = .ok (.iload_n 1, 1) := by decide +kernel
theorem dX8_makesAll_58 : decode cX8_makesAll 58 = .ok (.ireturn, 1) := by decide +kernel
theorem dX8_makesAll_59 : decode cX8_makesAll 59 = .ok (.aload_n 0, 1) := by decide +kernel
theorem dX8_makesAll_60 : decode cX8_makesAll 60 = .ok (.aload_n 0, 1) := by decide +kernel
theorem dX8_makesAll_61 : decode cX8_makesAll 61 = .ok (.getfield 213, 3) := by decide +kernel
theorem dX8_makesAll_64 : decode cX8_makesAll 64 = .ok (.aload_n 0, 1) := by decide +kernel
theorem dX8_makesAll_65 : decode cX8_makesAll 65 = .ok (.getfield 207, 3) := by decide +kernel
theorem dX8_makesAll_68 : decode cX8_makesAll 68 = .ok (.aload_n 0, 1) := by decide +kernel
theorem dX8_makesAll_69 : decode cX8_makesAll 69 = .ok (.getfield 216, 3) := by decide +kernel
theorem dX8_makesAll_72 : decode cX8_makesAll 72 = .ok (.aload_n 0, 1) := by decide +kernel
theorem dX8_makesAll_73 : decode cX8_makesAll 73 = .ok (.getfield 219, 3) := by decide +kernel
theorem dX8_makesAll_76 : decode cX8_makesAll 76 = .ok (.aload_n 0, 1) := by decide +kernel
theorem dX8_makesAll_77 : decode cX8_makesAll 77 = .ok (.getfield 222, 3) := by decide +kernel
theorem dX8_makesAll_80 : decode cX8_makesAll 80 = .ok (.aload_n 0, 1) := by decide +kernel
theorem dX8_makesAll_81 : decode cX8_makesAll 81 = .ok (.getfield 229, 3) := by decide +kernel
theorem dX8_makesAll_84 : decode cX8_makesAll 84 = .ok (.aload_n 0, 1) := by decide +kernel
theorem dX8_makesAll_85 : decode cX8_makesAll 85 = .ok (.getfield 232, 3) := by decide +kernel
theorem dX8_makesAll_88 : decode cX8_makesAll 88 = .ok (.invokevirtual 124, 3) := by decide +kernel
theorem dX8_makesAll_91 : decode cX8_makesAll 91 = .ok (.aload_n 0, 1) := by decide +kernel
theorem dX8_makesAll_92 : decode cX8_makesAll 92 = .ok (.dup, 1) := by decide +kernel
theorem dX8_makesAll_93 : decode cX8_makesAll 93 = .ok (.getfield 238, 3) := by decide +kernel
theorem dX8_makesAll_96 : decode cX8_makesAll 96 = .ok (.iconst 1, 1) := by decide +kernel
theorem dX8_makesAll_97 : decode cX8_makesAll 97 = .ok (.iadd, 1) := by decide +kernel
theorem dX8_makesAll_98 : decode cX8_makesAll 98 = .ok (.putfield 238, 3) := by decide +kernel
theorem dX8_makesAll_101 : decode cX8_makesAll 101 = .ok (.goto (-86), 3) := by decide +kernel
theorem dX8_makesAll_104 : decode cX8_makesAll 104 = .ok (.iconst (-1), 1) := by decide +kernel
theorem dX8_makesAll_105 : decode cX8_makesAll 105 = .ok (.ireturn, 1) := by decide +kernel
set_option maxRecDepth 20000 in
theorem ggX8_textFault_X8_in : GoodIn wsX8_textFault wsX8_in := goodIn_r _ [7] (by decide +kernel) (by decide +kernel)
set_option maxRecDepth 20000 in
theorem gX8_textFault_X8_in : GoodIn wsX8_textFault (va_wsS RX8 30 yX8_in wsX8_in) := goodIn_app (goodIn_of _ (by decide +kernel)) ggX8_textFault_X8_in
set_option maxRecDepth 20000 in
theorem ggX8_textFault_X8_laysAside : GoodIn wsX8_textFault wsX8_laysAside := goodIn_r _ [11, 12, 13, 113, 114, 115, 116, 117, 118, 119, 120, 121, 122, 123, 124, 125, 126, 127, 128, 129, 130] (by decide +kernel) (by decide +kernel)
set_option maxRecDepth 20000 in
theorem gX8_textFault_X8_laysAside : GoodIn wsX8_textFault (wsV RX8 250 RX8 yX8_laysAside wsX8_laysAside) := goodIn_app (goodIn_of _ (by decide +kernel)) ggX8_textFault_X8_laysAside
set_option maxRecDepth 20000 in
theorem ggX8_textFault_X8_makesAll : GoodIn wsX8_textFault wsX8_makesAll := goodIn_r _ [17, 18, 19, 3, 20, 21, 22, 23, 24, 25, 26, 27, 28, 29, 30, 6, 31, 32, 33, 34, 35, 36, 37, 38, 39, 40, 41, 42, 4, 5, 7, 43, 44, 45, 46, 47, 48, 49, 50, 51, 52, 53, 54, 55, 56, 13, 57, 58, 59, 60, 61, 62, 63, 64, 65, 66, 67, 68, 69, 70, 71, 72, 73, 74, 75, 76, 77, 78, 79, 80, 81, 82, 83, 84, 85, 86, 87, 88, 89, 90, 91, 92, 93, 94, 95, 96, 97, 98, 99, 100, 101, 102, 103, 104, 105, 106, 107, 108, 113, 114, 115, 116, 117, 118, 119, 120, 121, 122, 123, 124, 125, 126, 127, 128, 129, 130] (by decide +kernel) (by decide +kernel)
set_option maxRecDepth 20000 in
theorem gX8_textFault_X8_makesAll : GoodIn wsX8_textFault (wsV RX8 253 RX8 yX8_makesAll wsX8_makesAll) := goodIn_app (goodIn_of _ (by decide +kernel)) ggX8_textFault_X8_makesAll
set_option maxRecDepth 20000 in
theorem ggX8_textFault_X8_takesBack : GoodIn wsX8_textFault wsX8_takesBack := goodIn_r _ [112, 13, 12, 113, 114, 115, 116, 117, 118, 119, 120, 121, 122, 123, 124, 125, 126, 127, 128, 129, 130] (by decide +kernel) (by decide +kernel)
set_option maxRecDepth 20000 in
theorem gX8_textFault_X8_takesBack : GoodIn wsX8_textFault (wsV RX8 256 RX8 yX8_takesBack wsX8_takesBack) := goodIn_app (goodIn_of _ (by decide +kernel)) ggX8_textFault_X8_takesBack
theorem dX8_textFault_0 : decode cX8_textFault 0 = .ok (.iload_n 1, 1) := by decide +kernel
theorem dX8_textFault_1 : decode cX8_textFault 1 = .ok (.i2l, 1) := by decide +kernel
theorem dX8_textFault_2 : decode cX8_textFault 2 = .ok (.lconst 0, 1) := by decide +kernel
theorem dX8_textFault_3 : decode cX8_textFault 3 = .ok (.lconst 1, 1) := by decide +kernel
theorem dX8_textFault_4 : decode cX8_textFault 4 = .ok (.invokestatic 30, 3) := by decide +kernel
theorem dX8_textFault_7 : decode cX8_textFault 7 = .ok (.ifCond .ne 6, 3) := by decide +kernel
theorem dX8_textFault_10 : decode cX8_textFault 10 = .ok (.ldc 61, 2) := by decide +kernel
theorem dX8_textFault_12 : decode cX8_textFault 12 = .ok (.ireturn, 1) := by decide +kernel
theorem dX8_textFault_13 : decode cX8_textFault 13 = .ok (.aload_n 0, 1) := by decide +kernel
theorem dX8_textFault_14 : decode cX8_textFault 14 = .ok (.invokevirtual 250, 3) := by decide +kernel
theorem dX8_textFault_17 : decode cX8_textFault 17 = .ok (.aload_n 0, 1) := by decide +kernel
theorem dX8_textFault_18 : decode cX8_textFault 18 = .ok (.invokevirtual 253, 3) := by decide +kernel
theorem dX8_textFault_21 : decode cX8_textFault 21 = .ok (.istore_n 2, 1) := by decide +kernel
theorem dX8_textFault_22 : decode cX8_textFault 22 = .ok (.aload_n 0, 1) := by decide +kernel
theorem dX8_textFault_23 : decode cX8_textFault 23 = .ok (.invokevirtual 256, 3) := by decide +kernel
theorem dX8_textFault_26 : decode cX8_textFault 26 = .ok (.iload_n 2, 1) := by decide +kernel
theorem dX8_textFault_27 : decode cX8_textFault 27 = .ok (.iconst (-1), 1) := by decide +kernel
theorem dX8_textFault_28 : decode cX8_textFault 28 = .ok (.if_icmp .ne 8, 3) := by decide +kernel
theorem dX8_textFault_31 : decode cX8_textFault 31 = .ok (.ldc 19, 2) := by decide +kernel
theorem dX8_textFault_33 : decode cX8_textFault 33 = .ok (.goto 15, 3) := by decide +kernel
theorem dX8_textFault_36 : decode cX8_textFault 36 = .ok (.iload_n 1, 1) := by decide +kernel
theorem dX8_textFault_37 : decode cX8_textFault 37 = .ok (.ifCond .ne 7, 3) := by decide +kernel
theorem dX8_textFault_40 : decode cX8_textFault 40 = .ok (.iload_n 2, 1) := by decide +kernel
theorem dX8_textFault_41 : decode cX8_textFault 41 = .ok (.goto 7, 3) := by decide +kernel
theorem dX8_textFault_44 : decode cX8_textFault 44 = .ok (.aload_n 0, 1) := by decide +kernel
theorem dX8_textFault_45 : decode cX8_textFault 45 = .ok (.getfield 241, 3) := by decide +kernel
theorem dX8_textFault_48 : decode cX8_textFault 48 = .ok (.ireturn, 1) := by decide +kernel
set_option maxRecDepth 20000 in
theorem ggX8_enter_X8_laysAside : GoodIn wsX8_enter wsX8_laysAside := goodIn_r _ [10, 11, 12, 119, 120, 121, 122, 123, 124, 125, 126, 127, 128, 129, 130, 131, 132, 133, 134, 135, 136] (by decide +kernel) (by decide +kernel)
set_option maxRecDepth 20000 in
theorem gX8_enter_X8_laysAside : GoodIn wsX8_enter (wsV RX8 250 RX8 yX8_laysAside wsX8_laysAside) := goodIn_app (goodIn_of _ (by decide +kernel)) ggX8_enter_X8_laysAside
set_option maxRecDepth 20000 in
theorem ggX8_enter_X8_makesAll : GoodIn wsX8_enter wsX8_makesAll := goodIn_r _ [16, 17, 5, 1, 18, 19, 20, 21, 22, 23, 24, 25, 26, 27, 28, 9, 29, 30, 31, 32, 33, 34, 35, 36, 37, 38, 39, 40, 41, 42, 43, 44, 45, 46, 47, 48, 49, 50, 51, 52, 53, 54, 55, 56, 57, 12, 58, 2, 59, 60, 61, 62, 63, 64, 65, 66, 67, 68, 69, 70, 71, 72, 73, 74, 75, 76, 77, 78, 79, 80, 81, 82, 83, 84, 85, 86, 87, 88, 89, 90, 91, 92, 93, 94, 95, 96, 97, 98, 99, 100, 101, 102, 103, 104, 105, 106, 107, 108, 119, 120, 121, 122, 123, 124, 125, 126, 127, 128, 129, 130, 131, 132, 133, 134, 135, 136] (by decide +kernel) (by decide +kernel)
set_option maxRecDepth 20000 in
theorem gX8_enter_X8_makesAll : GoodIn wsX8_enter (wsV RX8 253 RX8 yX8_makesAll wsX8_makesAll) := goodIn_app (goodIn_of _ (by decide +kernel)) ggX8_enter_X8_makesAll
set_option maxRecDepth 20000 in
theorem ggX8_enter_X8_takesBack : GoodIn wsX8_enter wsX8_takesBack := goodIn_r _ [112, 12, 11, 119, 120, 121, 122, 123, 124, 125, 126, 127, 128, 129, 130, 131, 132, 133, 134, 135, 136] (by decide +kernel) (by decide +kernel)
set_option maxRecDepth 20000 in
theorem gX8_enter_X8_takesBack : GoodIn wsX8_enter (wsV RX8 256 RX8 yX8_takesBack wsX8_takesBack) := goodIn_app (goodIn_of _ (by decide +kernel)) ggX8_enter_X8_takesBack
set_option maxRecDepth 20000 in
theorem ggX8_enter_X8_save : GoodIn wsX8_enter wsX8_save := goodIn_r _ [116, 117, 118, 12, 119, 120, 121, 122, 123, 124, 125, 126, 127, 128, 129, 130, 131, 132, 133, 134, 135, 136] (by decide +kernel) (by decide +kernel)
set_option maxRecDepth 20000 in
theorem gX8_enter_X8_save : GoodIn wsX8_enter (wsV RX8 46 RX8 yX8_save wsX8_save) := goodIn_app (goodIn_of _ (by decide +kernel)) ggX8_enter_X8_save
theorem dX8_enter_0 : decode cX8_enter 0 = .ok (.aload_n 0, 1) := by decide +kernel
theorem dX8_enter_1 : decode cX8_enter 1 = .ok (.invokevirtual 250, 3) := by decide +kernel
theorem dX8_enter_4 : decode cX8_enter 4 = .ok (.aload_n 0, 1) := by decide +kernel
theorem dX8_enter_5 : decode cX8_enter 5 = .ok (.invokevirtual 253, 3) := by decide +kernel
theorem dX8_enter_8 : decode cX8_enter 8 = .ok (.istore_n 1, 1) := by decide +kernel
theorem dX8_enter_9 : decode cX8_enter 9 = .ok (.aload_n 0, 1) := by decide +kernel
theorem dX8_enter_10 : decode cX8_enter 10 = .ok (.invokevirtual 256, 3) := by decide +kernel
theorem dX8_enter_13 : decode cX8_enter 13 = .ok (.iload_n 1, 1) := by decide +kernel
theorem dX8_enter_14 : decode cX8_enter 14 = .ok (.iconst (-1), 1) := by decide +kernel
theorem dX8_enter_15 : decode cX8_enter 15 = .ok (.if_icmp .eq 29, 3) := by decide +kernel
theorem dX8_enter_18 : decode cX8_enter 18 = .ok (.aload_n 0, 1) := by decide +kernel
theorem dX8_enter_19 : decode cX8_enter 19 = .ok (.aload_n 0, 1) := by decide +kernel
theorem dX8_enter_20 : decode cX8_enter 20 = .ok (.getfield 241, 3) := by decide +kernel
theorem dX8_enter_23 : decode cX8_enter 23 = .ok (.iconst 4, 1) := by decide +kernel
theorem dX8_enter_24 : decode cX8_enter 24 = .ok (.if_icmp .ne 10, 3) := by decide +kernel
theorem dX8_enter_27 : decode cX8_enter 27 = .ok (.aload_n 0, 1) := by decide +kernel
theorem dX8_enter_28 : decode cX8_enter 28 = .ok (.getfield 235, 3) := by decide +kernel
theorem dX8_enter_31 : decode cX8_enter 31 = .ok (.goto 7, 3) := by decide +kernel
theorem dX8_enter_34 : decode cX8_enter 34 = .ok (.aload_n 0, 1) := by decide +kernel
theorem dX8_enter_35 : decode cX8_enter 35 = .ok (.getfield 20, 3) := by decide +kernel
theorem dX8_enter_38 : decode cX8_enter 38 = .ok (.putfield 20, 3) := by decide +kernel
theorem dX8_enter_41 : decode cX8_enter 41 = .ok (.ldc 119, 2) := by decide +kernel
theorem dX8_enter_43 : decode cX8_enter 43 = .ok (.ireturn, 1) := by decide +kernel
theorem dX8_enter_44 : decode cX8_enter 44 = .ok (.aload_n 0, 1) := by decide +kernel
theorem dX8_enter_45 : decode cX8_enter 45 = .ok (.invokevirtual 46, 3) := by decide +kernel
theorem dX8_enter_48 : decode cX8_enter 48 = .ok (.aload_n 0, 1) := by decide +kernel
theorem dX8_enter_49 : decode cX8_enter 49 = .ok (.invokevirtual 253, 3) := by decide +kernel
theorem dX8_enter_52 : decode cX8_enter 52 = .ok (.istore_n 2, 1) := by decide +kernel
theorem dX8_enter_53 : decode cX8_enter 53 = .ok (.iload_n 2, 1) := by decide +kernel
theorem dX8_enter_54 : decode cX8_enter 54 = .ok (.iconst (-1), 1) := by decide +kernel
theorem dX8_enter_55 : decode cX8_enter 55 = .ok (.if_icmp .ne 10, 3) := by decide +kernel
theorem dX8_enter_58 : decode cX8_enter 58 = .ok (.aload_n 0, 1) := by decide +kernel
theorem dX8_enter_59 : decode cX8_enter 59 = .ok (.getfield 238, 3) := by decide +kernel
theorem dX8_enter_62 : decode cX8_enter 62 = .ok (.goto 4, 3) := by decide +kernel
theorem dX8_enter_65 : decode cX8_enter 65 = .ok (.iconst 0, 1) := by decide +kernel
theorem dX8_enter_66 : decode cX8_enter 66 = .ok (.ireturn, 1) := by decide +kernel
theorem dJ6_bitCount_0f7a4_0 : decode cJ6_bitCount_0f7a4 0 = .ok (.iload_n 0, 1) := by decide +kernel
theorem dJ6_bitCount_0f7a4_1 : decode cJ6_bitCount_0f7a4 1 = .ok (.iload_n 0, 1) := by decide +kernel
theorem dJ6_bitCount_0f7a4_2 : decode cJ6_bitCount_0f7a4 2 = .ok (.iconst 1, 1) := by decide +kernel
theorem dJ6_bitCount_0f7a4_3 : decode cJ6_bitCount_0f7a4 3 = .ok (.iushr, 1) := by decide +kernel
theorem dJ6_bitCount_0f7a4_4 : decode cJ6_bitCount_0f7a4 4 = .ok (.ldc_w 265, 3) := by decide +kernel
theorem dJ6_bitCount_0f7a4_7 : decode cJ6_bitCount_0f7a4 7 = .ok (.iand, 1) := by decide +kernel
theorem dJ6_bitCount_0f7a4_8 : decode cJ6_bitCount_0f7a4 8 = .ok (.isub, 1) := by decide +kernel
theorem dJ6_bitCount_0f7a4_9 : decode cJ6_bitCount_0f7a4 9 = .ok (.istore_n 0, 1) := by decide +kernel
theorem dJ6_bitCount_0f7a4_10 : decode cJ6_bitCount_0f7a4 10 = .ok (.iload_n 0, 1) := by decide +kernel
theorem dJ6_bitCount_0f7a4_11 : decode cJ6_bitCount_0f7a4 11 = .ok (.ldc_w 266, 3) := by decide +kernel
theorem dJ6_bitCount_0f7a4_14 : decode cJ6_bitCount_0f7a4 14 = .ok (.iand, 1) := by decide +kernel
theorem dJ6_bitCount_0f7a4_15 : decode cJ6_bitCount_0f7a4 15 = .ok (.iload_n 0, 1) := by decide +kernel
theorem dJ6_bitCount_0f7a4_16 : decode cJ6_bitCount_0f7a4 16 = .ok (.iconst 2, 1) := by decide +kernel
theorem dJ6_bitCount_0f7a4_17 : decode cJ6_bitCount_0f7a4 17 = .ok (.iushr, 1) := by decide +kernel
theorem dJ6_bitCount_0f7a4_18 : decode cJ6_bitCount_0f7a4 18 = .ok (.ldc_w 266, 3) := by decide +kernel
theorem dJ6_bitCount_0f7a4_21 : decode cJ6_bitCount_0f7a4 21 = .ok (.iand, 1) := by decide +kernel
theorem dJ6_bitCount_0f7a4_22 : decode cJ6_bitCount_0f7a4 22 = .ok (.iadd, 1) := by decide +kernel
theorem dJ6_bitCount_0f7a4_23 : decode cJ6_bitCount_0f7a4 23 = .ok (.istore_n 0, 1) := by decide +kernel
theorem dJ6_bitCount_0f7a4_24 : decode cJ6_bitCount_0f7a4 24 = .ok (.iload_n 0, 1) := by decide +kernel
theorem dJ6_bitCount_0f7a4_25 : decode cJ6_bitCount_0f7a4 25 = .ok (.iload_n 0, 1) := by decide +kernel
theorem dJ6_bitCount_0f7a4_26 : decode cJ6_bitCount_0f7a4 26 = .ok (.iconst 4, 1) := by decide +kernel
theorem dJ6_bitCount_0f7a4_27 : decode cJ6_bitCount_0f7a4 27 = .ok (.iushr, 1) := by decide +kernel
theorem dJ6_bitCount_0f7a4_28 : decode cJ6_bitCount_0f7a4 28 = .ok (.iadd, 1) := by decide +kernel
theorem dJ6_bitCount_0f7a4_29 : decode cJ6_bitCount_0f7a4 29 = .ok (.ldc_w 267, 3) := by decide +kernel
theorem dJ6_bitCount_0f7a4_32 : decode cJ6_bitCount_0f7a4 32 = .ok (.iand, 1) := by decide +kernel
theorem dJ6_bitCount_0f7a4_33 : decode cJ6_bitCount_0f7a4 33 = .ok (.istore_n 0, 1) := by decide +kernel
theorem dJ6_bitCount_0f7a4_34 : decode cJ6_bitCount_0f7a4 34 = .ok (.iload_n 0, 1) := by decide +kernel
theorem dJ6_bitCount_0f7a4_35 : decode cJ6_bitCount_0f7a4 35 = .ok (.iload_n 0, 1) := by decide +kernel
theorem dJ6_bitCount_0f7a4_36 : decode cJ6_bitCount_0f7a4 36 = .ok (.bipush 8, 2) := by decide +kernel
theorem dJ6_bitCount_0f7a4_38 : decode cJ6_bitCount_0f7a4 38 = .ok (.iushr, 1) := by decide +kernel
theorem dJ6_bitCount_0f7a4_39 : decode cJ6_bitCount_0f7a4 39 = .ok (.iadd, 1) := by decide +kernel
theorem dJ6_bitCount_0f7a4_40 : decode cJ6_bitCount_0f7a4 40 = .ok (.istore_n 0, 1) := by decide +kernel
theorem dJ6_bitCount_0f7a4_41 : decode cJ6_bitCount_0f7a4 41 = .ok (.iload_n 0, 1) := by decide +kernel
theorem dJ6_bitCount_0f7a4_42 : decode cJ6_bitCount_0f7a4 42 = .ok (.iload_n 0, 1) := by decide +kernel
theorem dJ6_bitCount_0f7a4_43 : decode cJ6_bitCount_0f7a4 43 = .ok (.bipush 16, 2) := by decide +kernel
theorem dJ6_bitCount_0f7a4_45 : decode cJ6_bitCount_0f7a4 45 = .ok (.iushr, 1) := by decide +kernel
theorem dJ6_bitCount_0f7a4_46 : decode cJ6_bitCount_0f7a4 46 = .ok (.iadd, 1) := by decide +kernel
theorem dJ6_bitCount_0f7a4_47 : decode cJ6_bitCount_0f7a4 47 = .ok (.istore_n 0, 1) := by decide +kernel
theorem dJ6_bitCount_0f7a4_48 : decode cJ6_bitCount_0f7a4 48 = .ok (.iload_n 0, 1) := by decide +kernel
theorem dJ6_bitCount_0f7a4_49 : decode cJ6_bitCount_0f7a4 49 = .ok (.bipush 63, 2) := by decide +kernel
theorem dJ6_bitCount_0f7a4_51 : decode cJ6_bitCount_0f7a4 51 = .ok (.iand, 1) := by decide +kernel
theorem dJ6_bitCount_0f7a4_52 : decode cJ6_bitCount_0f7a4 52 = .ok (.ireturn, 1) := by decide +kernel
theorem dJ9_max_7cf53_0 : decode cJ9_max_7cf53 0 = .ok (.iload_n 0, 1) := by decide +kernel
theorem dJ9_max_7cf53_1 : decode cJ9_max_7cf53 1 = .ok (.iload_n 1, 1) := by decide +kernel
theorem dJ9_max_7cf53_2 : decode cJ9_max_7cf53 2 = .ok (.if_icmp .lt 7, 3) := by decide +kernel
theorem dJ9_max_7cf53_5 : decode cJ9_max_7cf53 5 = .ok (.iload_n 0, 1) := by decide +kernel
theorem dJ9_max_7cf53_6 : decode cJ9_max_7cf53 6 = .ok (.goto 4, 3) := by decide +kernel
theorem dJ9_max_7cf53_9 : decode cJ9_max_7cf53 9 = .ok (.iload_n 1, 1) := by decide +kernel
theorem dJ9_max_7cf53_10 : decode cJ9_max_7cf53 10 = .ok (.ireturn, 1) := by decide +kernel
theorem dJ9_min_7cf53_0 : decode cJ9_min_7cf53 0 = .ok (.iload_n 0, 1) := by decide +kernel
theorem dJ9_min_7cf53_1 : decode cJ9_min_7cf53 1 = .ok (.iload_n 1, 1) := by decide +kernel
theorem dJ9_min_7cf53_2 : decode cJ9_min_7cf53 2 = .ok (.if_icmp .gt 7, 3) := by decide +kernel
theorem dJ9_min_7cf53_5 : decode cJ9_min_7cf53 5 = .ok (.iload_n 0, 1) := by decide +kernel
theorem dJ9_min_7cf53_6 : decode cJ9_min_7cf53 6 = .ok (.goto 4, 3) := by decide +kernel
theorem dJ9_min_7cf53_9 : decode cJ9_min_7cf53 9 = .ok (.iload_n 1, 1) := by decide +kernel
theorem dJ9_min_7cf53_10 : decode cJ9_min_7cf53 10 = .ok (.ireturn, 1) := by decide +kernel
