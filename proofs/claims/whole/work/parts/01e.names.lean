theorem dX7_count_67 : decode cX7_count 67 = .ok (.ireturn, 1) := by decide +kernel
theorem dX7_count_68 : decode cX7_count 68 = .ok (.aload_n 0, 1) := by decide +kernel
theorem dX7_count_69 : decode cX7_count 69 = .ok (.getfield 10, 3) := by decide +kernel
theorem dX7_count_72 : decode cX7_count 72 = .ok (.getfield 188, 3) := by decide +kernel
theorem dX7_count_75 : decode cX7_count 75 = .ok (.ireturn, 1) := by decide +kernel
theorem dX7_count_76 : decode cX7_count 76 = .ok (.aload_n 0, 1) := by decide +kernel
theorem dX7_count_77 : decode cX7_count 77 = .ok (.getfield 10, 3) := by decide +kernel
theorem dX7_count_80 : decode cX7_count 80 = .ok (.invokevirtual 191, 3) := by decide +kernel
theorem dX7_count_83 : decode cX7_count 83 = .ok (.ireturn, 1) := by decide +kernel
theorem dX7_count_84 : decode cX7_count 84 = .ok (.aload_n 0, 1) := by decide +kernel
theorem dX7_count_85 : decode cX7_count 85 = .ok (.getfield 10, 3) := by decide +kernel
theorem dX7_count_88 : decode cX7_count 88 = .ok (.iconst (-1), 1) := by decide +kernel
theorem dX7_count_89 : decode cX7_count 89 = .ok (.invokevirtual 136, 3) := by decide +kernel
theorem dX7_count_92 : decode cX7_count 92 = .ok (.ireturn, 1) := by decide +kernel
theorem dX7_count_93 : decode cX7_count 93 = .ok (.aload_n 0, 1) := by decide +kernel
theorem dX7_count_94 : decode cX7_count 94 = .ok (.getfield 10, 3) := by decide +kernel
theorem dX7_count_97 : decode cX7_count 97 = .ok (.invokevirtual 194, 3) := by decide +kernel
theorem dX7_count_100 : decode cX7_count 100 = .ok (.ireturn, 1) := by decide +kernel
theorem dX7_count_101 : decode cX7_count 101 = .ok (.aload_n 0, 1) := by decide +kernel
theorem dX7_count_102 : decode cX7_count 102 = .ok (.getfield 10, 3) := by decide +kernel
theorem dX7_count_105 : decode cX7_count 105 = .ok (.invokevirtual 197, 3) := by decide +kernel
theorem dX7_count_108 : decode cX7_count 108 = .ok (.ireturn, 1) := by decide +kernel
theorem dX7_count_109 : decode cX7_count 109 = .ok (.aload_n 0, 1) := by decide +kernel
theorem dX7_count_110 : decode cX7_count 110 = .ok (.getfield 19, 3) := by decide +kernel
theorem dX7_count_113 : decode cX7_count 113 = .ok (.getfield 200, 3) := by decide +kernel
theorem dX7_count_116 : decode cX7_count 116 = .ok (.ireturn, 1) := by decide +kernel
theorem dX7_count_117 : decode cX7_count 117 = .ok (.aload_n 0, 1) := by decide +kernel
theorem dX7_count_118 : decode cX7_count 118 = .ok (.getfield 26, 3) := by decide +kernel
theorem dX7_count_121 : decode cX7_count 121 = .ok (.getfield 203, 3) := by decide +kernel
theorem dX7_count_124 : decode cX7_count 124 = .ok (.ireturn, 1) := by decide +kernel
theorem dX7_count_125 : decode cX7_count 125 = .ok (.aload_n 0, 1) := by decide +kernel
theorem dX7_count_126 : decode cX7_count 126 = .ok (.iload_n 1, 1) := by decide +kernel
theorem dX7_count_127 : decode cX7_count 127 = .ok (.invokevirtual 206, 3) := by decide +kernel
theorem dX7_count_130 : decode cX7_count 130 = .ok (.ireturn, 1) := by decide +kernel
theorem dX7_settingOrAccount_0 : decode cX7_settingOrAccount 0 = .ok (.iload_n 1, 1) := by decide +kernel
theorem dX7_settingOrAccount_1 : decode cX7_settingOrAccount 1 = .ok (.bipush 10, 2) := by decide +kernel
theorem dX7_settingOrAccount_3 : decode cX7_settingOrAccount 3 = .ok (.if_icmp .lt 22, 3) := by decide +kernel
theorem dX7_settingOrAccount_6 : decode cX7_settingOrAccount 6 = .ok (.iload_n 1, 1) := by decide +kernel
theorem dX7_settingOrAccount_7 : decode cX7_settingOrAccount 7 = .ok (.bipush 18, 2) := by decide +kernel
theorem dX7_settingOrAccount_9 : decode cX7_settingOrAccount 9 = .ok (.if_icmp .ge 16, 3) := by decide +kernel
theorem dX7_settingOrAccount_12 : decode cX7_settingOrAccount 12 = .ok (.aload_n 0, 1) := by decide +kernel
theorem dX7_settingOrAccount_13 : decode cX7_settingOrAccount 13 = .ok (.getfield 10, 3) := by decide +kernel
theorem dX7_settingOrAccount_16 : decode cX7_settingOrAccount 16 = .ok (.getfield 90, 3) := by decide +kernel
theorem dX7_settingOrAccount_19 : decode cX7_settingOrAccount 19 = .ok (.iload_n 1, 1) := by decide +kernel
theorem dX7_settingOrAccount_20 : decode cX7_settingOrAccount 20 = .ok (.bipush 10, 2) := by decide +kernel
theorem dX7_settingOrAccount_22 : decode cX7_settingOrAccount 22 = .ok (.isub, 1) := by decide +kernel
theorem dX7_settingOrAccount_23 : decode cX7_settingOrAccount 23 = .ok (.iaload, 1) := by decide +kernel
theorem dX7_settingOrAccount_24 : decode cX7_settingOrAccount 24 = .ok (.ireturn, 1) := by decide +kernel
theorem dX7_settingOrAccount_25 : decode cX7_settingOrAccount 25 = .ok (.iload_n 1, 1) := by decide +kernel
theorem dX7_settingOrAccount_26 : decode cX7_settingOrAccount 26 = .ok (.bipush 20, 2) := by decide +kernel
theorem dX7_settingOrAccount_28 : decode cX7_settingOrAccount 28 = .ok (.if_icmp .lt 22, 3) := by decide +kernel
theorem dX7_settingOrAccount_31 : decode cX7_settingOrAccount 31 = .ok (.iload_n 1, 1) := by decide +kernel
theorem dX7_settingOrAccount_32 : decode cX7_settingOrAccount 32 = .ok (.bipush 29, 2) := by decide +kernel
theorem dX7_settingOrAccount_34 : decode cX7_settingOrAccount 34 = .ok (.if_icmp .ge 16, 3) := by decide +kernel
theorem dX7_settingOrAccount_37 : decode cX7_settingOrAccount 37 = .ok (.aload_n 0, 1) := by decide +kernel
theorem dX7_settingOrAccount_38 : decode cX7_settingOrAccount 38 = .ok (.getfield 10, 3) := by decide +kernel
theorem dX7_settingOrAccount_41 : decode cX7_settingOrAccount 41 = .ok (.getfield 209, 3) := by decide +kernel
theorem dX7_settingOrAccount_44 : decode cX7_settingOrAccount 44 = .ok (.iload_n 1, 1) := by decide +kernel
theorem dX7_settingOrAccount_45 : decode cX7_settingOrAccount 45 = .ok (.bipush 20, 2) := by decide +kernel
theorem dX7_settingOrAccount_47 : decode cX7_settingOrAccount 47 = .ok (.isub, 1) := by decide +kernel
theorem dX7_settingOrAccount_48 : decode cX7_settingOrAccount 48 = .ok (.iaload, 1) := by decide +kernel
theorem dX7_settingOrAccount_49 : decode cX7_settingOrAccount 49 = .ok (.ireturn, 1) := by decide +kernel
theorem dX7_settingOrAccount_50 : decode cX7_settingOrAccount 50 = .ok (.ldc 60, 2) := by decide +kernel
theorem dX7_settingOrAccount_52 : decode cX7_settingOrAccount 52 = .ok (.ireturn, 1) := by decide +kernel
set_option maxRecDepth 20000 in
theorem ggX7_undo_X2_restore : GoodIn wsX7_undo wsX2_restore := goodIn_r _ [9, 10, 11, 12, 13, 14, 15, 16, 17, 18, 19, 20, 21, 22, 23, 24, 25, 26, 27, 28, 29, 30, 31, 32, 33, 34, 35, 36, 37, 38, 39, 40, 41, 42, 43, 44, 45, 46, 47, 48, 49, 50, 51, 52, 53, 54, 55, 56, 63, 64, 65, 66, 67, 68, 69, 70, 71, 72, 73, 74, 75, 76, 77, 78, 79, 80, 81, 82, 83, 84, 85, 86, 87, 88, 89, 90, 91] (by decide +kernel) (by decide +kernel)
set_option maxRecDepth 20000 in
theorem gX7_undo_X2_restore : GoodIn wsX7_undo (wsV RX7 212 RX2 yX2_restore wsX2_restore) := goodIn_app (goodIn_of _ (by decide +kernel)) ggX7_undo_X2_restore
theorem dX7_undo_0 : decode cX7_undo 0 = .ok (.aload_n 0, 1) := by decide +kernel
theorem dX7_undo_1 : decode cX7_undo 1 = .ok (.getfield 19, 3) := by decide +kernel
theorem dX7_undo_4 : decode cX7_undo 4 = .ok (.getfield 200, 3) := by decide +kernel
theorem dX7_undo_7 : decode cX7_undo 7 = .ok (.iconst 1, 1) := by decide +kernel
theorem dX7_undo_8 : decode cX7_undo 8 = .ok (.if_icmp .ge 6, 3) := by decide +kernel
theorem dX7_undo_11 : decode cX7_undo 11 = .ok (.ldc 119, 2) := by decide +kernel
theorem dX7_undo_13 : decode cX7_undo 13 = .ok (.ireturn, 1) := by decide +kernel
theorem dX7_undo_14 : decode cX7_undo 14 = .ok (.aload_n 0, 1) := by decide +kernel
theorem dX7_undo_15 : decode cX7_undo 15 = .ok (.getfield 19, 3) := by decide +kernel
theorem dX7_undo_18 : decode cX7_undo 18 = .ok (.aload_n 0, 1) := by decide +kernel
theorem dX7_undo_19 : decode cX7_undo 19 = .ok (.getfield 10, 3) := by decide +kernel
theorem dX7_undo_22 : decode cX7_undo 22 = .ok (.invokevirtual 212, 3) := by decide +kernel
theorem dX7_undo_25 : decode cX7_undo 25 = .ok (.aload_n 0, 1) := by decide +kernel
theorem dX7_undo_26 : decode cX7_undo 26 = .ok (.getfield 19, 3) := by decide +kernel
theorem dX7_undo_29 : decode cX7_undo 29 = .ok (.getfield 200, 3) := by decide +kernel
theorem dX7_undo_32 : decode cX7_undo 32 = .ok (.ireturn, 1) := by decide +kernel
set_option maxRecDepth 20000 in
theorem ggX7_lend_X0_keyAt : GoodIn wsX7_lend wsX0_keyAt := goodIn_r _ [14, 15, 110, 111, 112, 113, 114, 115, 116, 117, 118] (by decide +kernel) (by decide +kernel)
set_option maxRecDepth 20000 in
theorem gX7_lend_X0_keyAt : GoodIn wsX7_lend (wsV RX7 215 RX0 yX0_keyAt wsX0_keyAt) := goodIn_app (goodIn_of _ (by decide +kernel)) ggX7_lend_X0_keyAt
set_option maxRecDepth 20000 in
theorem ggX7_lend_X0_hireAt : GoodIn wsX7_lend wsX0_hireAt := goodIn_r _ [19, 20, 21, 110, 111, 112, 113, 114, 115, 116, 117, 118] (by decide +kernel) (by decide +kernel)
set_option maxRecDepth 20000 in
theorem gX7_lend_X0_hireAt : GoodIn wsX7_lend (wsV RX7 132 RX0 yX0_hireAt wsX0_hireAt) := goodIn_app (goodIn_of _ (by decide +kernel)) ggX7_lend_X0_hireAt
set_option maxRecDepth 20000 in
theorem ggX7_lend_X1_lastPlannedDay : GoodIn wsX7_lend wsX1_lastPlannedDay := goodIn_r _ [26, 27, 28, 29, 30, 25, 31, 32, 33, 34, 35, 36, 37, 38, 39, 95, 96, 97, 98, 99, 100, 101, 102, 103, 104, 105, 106, 107, 108, 109] (by decide +kernel) (by decide +kernel)
set_option maxRecDepth 20000 in
theorem gX7_lend_X1_lastPlannedDay : GoodIn wsX7_lend (wsV RX7 219 RX1 yX1_lastPlannedDay wsX1_lastPlannedDay) := goodIn_app (goodIn_of _ (by decide +kernel)) ggX7_lend_X1_lastPlannedDay
set_option maxRecDepth 20000 in
theorem ggX7_lend_X2_save : GoodIn wsX7_lend wsX2_save := goodIn_r _ [44, 45, 46, 47, 48, 49, 43, 50, 51, 52, 53, 13, 54, 55, 56, 20, 57, 58, 59, 60, 61, 62, 63, 64, 21, 15, 65, 66, 67, 25, 68, 69, 70, 71, 72, 27, 38, 39, 73, 32, 33, 74, 75, 76, 77, 78, 79, 80, 81, 82, 83, 84, 85, 119, 120, 110, 111, 112, 113, 114, 115, 116, 117, 118, 95, 96, 97, 98, 99, 100, 101, 102, 103, 104, 105, 106, 107, 108, 109, 92, 93, 94] (by decide +kernel) (by decide +kernel)
set_option maxRecDepth 20000 in
theorem gX7_lend_X2_save : GoodIn wsX7_lend (wsV RX7 52 RX2 yX2_save wsX2_save) := goodIn_app (goodIn_of _ (by decide +kernel)) ggX7_lend_X2_save
theorem dX7_lend_0 : decode cX7_lend 0 = .ok (.aload_n 0, 1) := by decide +kernel
theorem dX7_lend_1 : decode cX7_lend 1 = .ok (.getfield 10, 3) := by decide +kernel
theorem dX7_lend_4 : decode cX7_lend 4 = .ok (.iload_n 1, 1) := by decide +kernel
theorem dX7_lend_5 : decode cX7_lend 5 = .ok (.invokevirtual 215, 3) := by decide +kernel
theorem dX7_lend_8 : decode cX7_lend 8 = .ok (.astore_n 3, 1) := by decide +kernel
theorem dX7_lend_9 : decode cX7_lend 9 = .ok (.aload_n 0, 1) := by decide +kernel
theorem dX7_lend_10 : decode cX7_lend 10 = .ok (.getfield 10, 3) := by decide +kernel
theorem dX7_lend_13 : decode cX7_lend 13 = .ok (.iload_n 2, 1) := by decide +kernel
theorem dX7_lend_14 : decode cX7_lend 14 = .ok (.invokevirtual 132, 3) := by decide +kernel
theorem dX7_lend_17 : decode cX7_lend 17 = .ok (.astore 4, 2) := by decide +kernel
theorem dX7_lend_19 : decode cX7_lend 19 = .ok (.aload_n 3, 1) := by decide +kernel
theorem dX7_lend_20 : decode cX7_lend 20 = .ok (.ifnull 8, 3) := by decide +kernel
theorem dX7_lend_23 : decode cX7_lend 23 = .ok (.aload 4, 2) := by decide +kernel
theorem dX7_lend_25 : decode cX7_lend 25 = .ok (.ifnonnull 6, 3) := by decide +kernel
theorem dX7_lend_28 : decode cX7_lend 28 = .ok (.ldc 60, 2) := by decide +kernel
theorem dX7_lend_30 : decode cX7_lend 30 = .ok (.ireturn, 1) := by decide +kernel
theorem dX7_lend_31 : decode cX7_lend 31 = .ok (.aload 4, 2) := by decide +kernel
theorem dX7_lend_33 : decode cX7_lend 33 = .ok (.invokevirtual 219, 3) := by decide +kernel
theorem dX7_lend_36 : decode cX7_lend 36 = .ok (.istore 5, 2) := by decide +kernel
theorem dX7_lend_38 : decode cX7_lend 38 = .ok (.aload_n 3, 1) := by decide +kernel
theorem dX7_lend_39 : decode cX7_lend 39 = .ok (.getfield 222, 3) := by decide +kernel
theorem dX7_lend_42 : decode cX7_lend 42 = .ok (.iconst (-1), 1) := by decide +kernel
theorem dX7_lend_43 : decode cX7_lend 43 = .ok (.if_icmp .ne 24, 3) := by decide +kernel
theorem dX7_lend_46 : decode cX7_lend 46 = .ok (.iload 5, 2) := by decide +kernel
theorem dX7_lend_48 : decode cX7_lend 48 = .ok (.iconst (-1), 1) := by decide +kernel
theorem dX7_lend_49 : decode cX7_lend 49 = .ok (.if_icmp .eq 18, 3) := by decide +kernel
theorem dX7_lend_52 : decode cX7_lend 52 = .ok (.aload 4, 2) := by decide +kernel
theorem dX7_lend_54 : decode cX7_lend 54 = .ok (.getfield 227, 3) := by decide +kernel
theorem dX7_lend_57 : decode cX7_lend 57 = .ok (.aload_n 3, 1) := by decide +kernel
theorem dX7_lend_58 : decode cX7_lend 58 = .ok (.getfield 228, 3) := by decide +kernel
theorem dX7_lend_61 : decode cX7_lend 61 = .ok (.ishr, 1) := by decide +kernel
theorem dX7_lend_62 : decode cX7_lend 62 = .ok (.iconst 1, 1) := by decide +kernel
theorem dX7_lend_63 : decode cX7_lend 63 = .ok (.iand, 1) := by decide +kernel
theorem dX7_lend_64 : decode cX7_lend 64 = .ok (.ifCond .ne 6, 3) := by decide +kernel
theorem dX7_lend_67 : decode cX7_lend 67 = .ok (.ldc 119, 2) := by decide +kernel
theorem dX7_lend_69 : decode cX7_lend 69 = .ok (.ireturn, 1) := by decide +kernel
theorem dX7_lend_70 : decode cX7_lend 70 = .ok (.aload_n 0, 1) := by decide +kernel
theorem dX7_lend_71 : decode cX7_lend 71 = .ok (.getfield 19, 3) := by decide +kernel
theorem dX7_lend_74 : decode cX7_lend 74 = .ok (.aload_n 0, 1) := by decide +kernel
theorem dX7_lend_75 : decode cX7_lend 75 = .ok (.getfield 10, 3) := by decide +kernel
theorem dX7_lend_78 : decode cX7_lend 78 = .ok (.invokevirtual 52, 3) := by decide +kernel
theorem dX7_lend_81 : decode cX7_lend 81 = .ok (.aload_n 3, 1) := by decide +kernel
theorem dX7_lend_82 : decode cX7_lend 82 = .ok (.iload_n 2, 1) := by decide +kernel
theorem dX7_lend_83 : decode cX7_lend 83 = .ok (.putfield 222, 3) := by decide +kernel
theorem dX7_lend_86 : decode cX7_lend 86 = .ok (.aload_n 3, 1) := by decide +kernel
theorem dX7_lend_87 : decode cX7_lend 87 = .ok (.iload 5, 2) := by decide +kernel
theorem dX7_lend_89 : decode cX7_lend 89 = .ok (.aload_n 0, 1) := by decide +kernel
theorem dX7_lend_90 : decode cX7_lend 90 = .ok (.getfield 10, 3) := by decide +kernel
theorem dX7_lend_93 : decode cX7_lend 93 = .ok (.getfield 90, 3) := by decide +kernel
theorem dX7_lend_96 : decode cX7_lend 96 = .ok (.bipush 7, 2) := by decide +kernel
theorem dX7_lend_98 : decode cX7_lend 98 = .ok (.iaload, 1) := by decide +kernel
theorem dX7_lend_99 : decode cX7_lend 99 = .ok (.iadd, 1) := by decide +kernel
theorem dX7_lend_100 : decode cX7_lend 100 = .ok (.putfield 231, 3) := by decide +kernel
theorem dX7_lend_103 : decode cX7_lend 103 = .ok (.aload_n 3, 1) := by decide +kernel
theorem dX7_lend_104 : decode cX7_lend 104 = .ok (.getfield 231, 3) := by decide +kernel
theorem dX7_lend_107 : decode cX7_lend 107 = .ok (.ireturn, 1) := by decide +kernel
set_option maxRecDepth 20000 in
theorem ggX7_bringBack_X0_keyAt : GoodIn wsX7_bringBack wsX0_keyAt := goodIn_r _ [11, 12, 84, 85, 86, 87, 88, 89, 90, 91, 92] (by decide +kernel) (by decide +kernel)
set_option maxRecDepth 20000 in
theorem gX7_bringBack_X0_keyAt : GoodIn wsX7_bringBack (wsV RX7 215 RX0 yX0_keyAt wsX0_keyAt) := goodIn_app (goodIn_of _ (by decide +kernel)) ggX7_bringBack_X0_keyAt
set_option maxRecDepth 20000 in
theorem ggX7_bringBack_X2_save : GoodIn wsX7_bringBack wsX2_save := goodIn_r _ [17, 18, 19, 20, 21, 22, 16, 23, 24, 25, 26, 10, 27, 28, 29, 30, 31, 32, 33, 34, 35, 36, 37, 38, 39, 12, 40, 41, 42, 43, 44, 45, 46, 47, 48, 49, 50, 51, 52, 53, 54, 55, 56, 57, 58, 59, 60, 61, 62, 63, 64, 65, 66, 93, 94, 84, 85, 86, 87, 88, 89, 90, 91, 92, 95, 96, 97, 98, 99, 100, 101, 102, 103, 104, 105, 106, 107, 108, 109, 81, 82, 83] (by decide +kernel) (by decide +kernel)
set_option maxRecDepth 20000 in
theorem gX7_bringBack_X2_save : GoodIn wsX7_bringBack (wsV RX7 52 RX2 yX2_save wsX2_save) := goodIn_app (goodIn_of _ (by decide +kernel)) ggX7_bringBack_X2_save
set_option maxRecDepth 20000 in
theorem ggX7_bringBack_X3_daysLate : GoodIn wsX7_bringBack wsX3_daysLate := goodIn_r _ [70, 65, 66, 71, 72, 73, 74, 81, 82, 83] (by decide +kernel) (by decide +kernel)
set_option maxRecDepth 20000 in
theorem gX7_bringBack_X3_daysLate : GoodIn wsX7_bringBack (wsV RX7 234 RX3 yX3_daysLate wsX3_daysLate) := goodIn_app (goodIn_of _ (by decide +kernel)) ggX7_bringBack_X3_daysLate
theorem dX7_bringBack_0 : decode cX7_bringBack 0 = .ok (.aload_n 0, 1) := by decide +kernel
theorem dX7_bringBack_1 : decode cX7_bringBack 1 = .ok (.getfield 10, 3) := by decide +kernel
theorem dX7_bringBack_4 : decode cX7_bringBack 4 = .ok (.iload_n 1, 1) := by decide +kernel
theorem dX7_bringBack_5 : decode cX7_bringBack 5 = .ok (.invokevirtual 215, 3) := by decide +kernel
theorem dX7_bringBack_8 : decode cX7_bringBack 8 = .ok (.astore_n 2, 1) := by decide +kernel
theorem dX7_bringBack_9 : decode cX7_bringBack 9 = .ok (.aload_n 2, 1) := by decide +kernel
theorem dX7_bringBack_10 : decode cX7_bringBack 10 = .ok (.ifnonnull 6, 3) := by decide +kernel
theorem dX7_bringBack_13 : decode cX7_bringBack 13 = .ok (.ldc 60, 2) := by decide +kernel
theorem dX7_bringBack_15 : decode cX7_bringBack 15 = .ok (.ireturn, 1) := by decide +kernel
theorem dX7_bringBack_16 : decode cX7_bringBack 16 = .ok (.aload_n 2, 1) := by decide +kernel
theorem dX7_bringBack_17 : decode cX7_bringBack 17 = .ok (.getfield 222, 3) := by decide +kernel
theorem dX7_bringBack_20 : decode cX7_bringBack 20 = .ok (.iconst (-1), 1) := by decide +kernel
theorem dX7_bringBack_21 : decode cX7_bringBack 21 = .ok (.if_icmp .ne 6, 3) := by decide +kernel
theorem dX7_bringBack_24 : decode cX7_bringBack 24 = .ok (.ldc 119, 2) := by decide +kernel
theorem dX7_bringBack_26 : decode cX7_bringBack 26 = .ok (.ireturn, 1) := by decide +kernel
theorem dX7_bringBack_27 : decode cX7_bringBack 27 = .ok (.aload_n 0, 1) := by decide +kernel
theorem dX7_bringBack_28 : decode cX7_bringBack 28 = .ok (.getfield 19, 3) := by decide +kernel
theorem dX7_bringBack_31 : decode cX7_bringBack 31 = .ok (.aload_n 0, 1) := by decide +kernel
theorem dX7_bringBack_32 : decode cX7_bringBack 32 = .ok (.getfield 10, 3) := by decide +kernel
theorem dX7_bringBack_35 : decode cX7_bringBack 35 = .ok (.invokevirtual 52, 3) := by decide +kernel
theorem dX7_bringBack_38 : decode cX7_bringBack 38 = .ok (.aload_n 2, 1) := by decide +kernel
theorem dX7_bringBack_39 : decode cX7_bringBack 39 = .ok (.aload_n 0, 1) := by decide +kernel
theorem dX7_bringBack_40 : decode cX7_bringBack 40 = .ok (.getfield 10, 3) := by decide +kernel
theorem dX7_bringBack_43 : decode cX7_bringBack 43 = .ok (.getfield 109, 3) := by decide +kernel
theorem dX7_bringBack_46 : decode cX7_bringBack 46 = .ok (.invokevirtual 234, 3) := by decide +kernel
theorem dX7_bringBack_49 : decode cX7_bringBack 49 = .ok (.istore_n 3, 1) := by decide +kernel
theorem dX7_bringBack_50 : decode cX7_bringBack 50 = .ok (.aload_n 2, 1) := by decide +kernel
theorem dX7_bringBack_51 : decode cX7_bringBack 51 = .ok (.iconst (-1), 1) := by decide +kernel
theorem dX7_bringBack_52 : decode cX7_bringBack 52 = .ok (.putfield 222, 3) := by decide +kernel
theorem dX7_bringBack_55 : decode cX7_bringBack 55 = .ok (.iload_n 3, 1) := by decide +kernel
theorem dX7_bringBack_56 : decode cX7_bringBack 56 = .ok (.ireturn, 1) := by decide +kernel
set_option maxRecDepth 20000 in
theorem ggX7_key_X0_keyAt : GoodIn wsX7_key wsX0_keyAt := goodIn_r _ [14, 15, 57, 58, 59, 60, 61, 62, 63, 64, 65] (by decide +kernel) (by decide +kernel)
set_option maxRecDepth 20000 in
theorem gX7_key_X0_keyAt : GoodIn wsX7_key (wsV RX7 215 RX0 yX0_keyAt wsX0_keyAt) := goodIn_app (goodIn_of _ (by decide +kernel)) ggX7_key_X0_keyAt
set_option maxRecDepth 20000 in
theorem ggX7_key_X0_hireAt : GoodIn wsX7_key wsX0_hireAt := goodIn_r _ [19, 20, 21, 57, 58, 59, 60, 61, 62, 63, 64, 65] (by decide +kernel) (by decide +kernel)
set_option maxRecDepth 20000 in
theorem gX7_key_X0_hireAt : GoodIn wsX7_key (wsV RX7 132 RX0 yX0_hireAt wsX0_hireAt) := goodIn_app (goodIn_of _ (by decide +kernel)) ggX7_key_X0_hireAt
set_option maxRecDepth 20000 in
theorem ggX7_key_X3_daysLate : GoodIn wsX7_key wsX3_daysLate := goodIn_r _ [26, 27, 28, 29, 30, 31, 32, 39, 40, 41] (by decide +kernel) (by decide +kernel)
set_option maxRecDepth 20000 in
theorem gX7_key_X3_daysLate : GoodIn wsX7_key (wsV RX7 234 RX3 yX3_daysLate wsX3_daysLate) := goodIn_app (goodIn_of _ (by decide +kernel)) ggX7_key_X3_daysLate
theorem dX7_key_0 : decode cX7_key 0 = .ok (.aload_n 0, 1) := by decide +kernel
theorem dX7_key_1 : decode cX7_key 1 = .ok (.getfield 10, 3) := by decide +kernel
theorem dX7_key_4 : decode cX7_key 4 = .ok (.iload_n 1, 1) := by decide +kernel
theorem dX7_key_5 : decode cX7_key 5 = .ok (.invokevirtual 215, 3) := by decide +kernel
theorem dX7_key_8 : decode cX7_key 8 = .ok (.astore_n 3, 1) := by decide +kernel
theorem dX7_key_9 : decode cX7_key 9 = .ok (.aload_n 3, 1) := by decide +kernel
theorem dX7_key_10 : decode cX7_key 10 = .ok (.ifnull 12, 3) := by decide +kernel
theorem dX7_key_13 : decode cX7_key 13 = .ok (.iload_n 2, 1) := by decide +kernel
theorem dX7_key_14 : decode cX7_key 14 = .ok (.ifCond .lt 8, 3) := by decide +kernel
theorem dX7_key_17 : decode cX7_key 17 = .ok (.iload_n 2, 1) := by decide +kernel
theorem dX7_key_18 : decode cX7_key 18 = .ok (.iconst 4, 1) := by decide +kernel
theorem dX7_key_19 : decode cX7_key 19 = .ok (.if_icmp .le 6, 3) := by decide +kernel
theorem dX7_key_22 : decode cX7_key 22 = .ok (.ldc 60, 2) := by decide +kernel
theorem dX7_key_24 : decode cX7_key 24 = .ok (.ireturn, 1) := by decide +kernel
theorem dX7_key_25 : decode cX7_key 25 = .ok (.iload_n 2, 1) := by decide +kernel
theorem dX7_key_26 : decode cX7_key 26 = .ok (.ifCond .ne 8, 3) := by decide +kernel
theorem dX7_key_29 : decode cX7_key 29 = .ok (.aload_n 3, 1) := by decide +kernel
theorem dX7_key_30 : decode cX7_key 30 = .ok (.getfield 228, 3) := by decide +kernel
theorem dX7_key_33 : decode cX7_key 33 = .ok (.ireturn, 1) := by decide +kernel
theorem dX7_key_34 : decode cX7_key 34 = .ok (.aload_n 0, 1) := by decide +kernel
theorem dX7_key_35 : decode cX7_key 35 = .ok (.getfield 10, 3) := by decide +kernel
theorem dX7_key_38 : decode cX7_key 38 = .ok (.aload_n 3, 1) := by decide +kernel
theorem dX7_key_39 : decode cX7_key 39 = .ok (.getfield 222, 3) := by decide +kernel
theorem dX7_key_42 : decode cX7_key 42 = .ok (.invokevirtual 132, 3) := by decide +kernel
theorem dX7_key_45 : decode cX7_key 45 = .ok (.astore 4, 2) := by decide +kernel
theorem dX7_key_47 : decode cX7_key 47 = .ok (.aload 4, 2) := by decide +kernel
theorem dX7_key_49 : decode cX7_key 49 = .ok (.ifnonnull 6, 3) := by decide +kernel
theorem dX7_key_52 : decode cX7_key 52 = .ok (.ldc 131, 2) := by decide +kernel
theorem dX7_key_54 : decode cX7_key 54 = .ok (.ireturn, 1) := by decide +kernel
theorem dX7_key_55 : decode cX7_key 55 = .ok (.iload_n 2, 1) := by decide +kernel
theorem dX7_key_56 : decode cX7_key 56 = .ok (.tableswitch 45 1 3 #[28, 34, 40], 28) := by decide +kernel
theorem dX7_key_84 : decode cX7_key 84 = .ok (.aload 4, 2) := by decide +kernel
theorem dX7_key_86 : decode cX7_key 86 = .ok (.getfield 163, 3) := by decide +kernel
theorem dX7_key_89 : decode cX7_key 89 = .ok (.ireturn, 1) := by decide +kernel
theorem dX7_key_90 : decode cX7_key 90 = .ok (.aload 4, 2) := by decide +kernel
theorem dX7_key_92 : decode cX7_key 92 = .ok (.getfield 237, 3) := by decide +kernel
theorem dX7_key_95 : decode cX7_key 95 = .ok (.ireturn, 1) := by decide +kernel
theorem dX7_key_96 : decode cX7_key 96 = .ok (.aload_n 3, 1) := by decide +kernel
theorem dX7_key_97 : decode cX7_key 97 = .ok (.getfield 231, 3) := by decide +kernel
theorem dX7_key_100 : decode cX7_key 100 = .ok (.ireturn, 1) := by decide +kernel
theorem dX7_key_101 : decode cX7_key 101 = .ok (.aload_n 3, 1) := by decide +kernel
theorem dX7_key_102 : decode cX7_key 102 = .ok (.aload_n 0, 1) := by decide +kernel
theorem dX7_key_103 : decode cX7_key 103 = .ok (.getfield 10, 3) := by decide +kernel
theorem dX7_key_106 : decode cX7_key 106 = .ok (.getfield 109, 3) := by decide +kernel
theorem dX7_key_109 : decode cX7_key 109 = .ok (.invokevirtual 234, 3) := by decide +kernel
theorem dX7_key_112 : decode cX7_key 112 = .ok (.ireturn, 1) := by decide +kernel
set_option maxRecDepth 20000 in
theorem ggX7_report_X0_hireOfSession : GoodIn wsX7_report wsX0_hireOfSession := goodIn_r _ [12, 13, 14, 15, 16, 11, 17, 18, 19, 129, 130, 131, 132, 133, 134, 135, 136, 137, 138, 139, 140, 141, 142, 143, 144, 145, 146, 147, 148, 149, 150, 151, 152] (by decide +kernel) (by decide +kernel)
set_option maxRecDepth 20000 in
theorem gX7_report_X0_hireOfSession : GoodIn wsX7_report (wsV RX7 144 RX0 yX0_hireOfSession wsX0_hireOfSession) := goodIn_app (goodIn_of _ (by decide +kernel)) ggX7_report_X0_hireOfSession
set_option maxRecDepth 20000 in
theorem ggX7_report_X1_stateOf : GoodIn wsX7_report wsX1_stateOf := goodIn_r _ [24, 25, 26, 129, 130, 131, 132, 133, 134, 135, 136, 137, 138, 139, 140, 141, 142, 143] (by decide +kernel) (by decide +kernel)
set_option maxRecDepth 20000 in
theorem gX7_report_X1_stateOf : GoodIn wsX7_report (wsV RX7 150 RX1 yX1_stateOf wsX1_stateOf) := goodIn_app (goodIn_of _ (by decide +kernel)) ggX7_report_X1_stateOf
set_option maxRecDepth 20000 in
theorem ggX7_report_X1_canHaveFault : GoodIn wsX7_report wsX1_canHaveFault := goodIn_r _ [30, 31, 129, 130, 131, 132, 133, 134, 135, 136, 137, 138, 139, 140, 141, 142, 143] (by decide +kernel) (by decide +kernel)
set_option maxRecDepth 20000 in
theorem gX7_report_X1_canHaveFault : GoodIn wsX7_report (wsV RX7 244 RX1 yX1_canHaveFault wsX1_canHaveFault) := goodIn_app (goodIn_of _ (by decide +kernel)) ggX7_report_X1_canHaveFault
set_option maxRecDepth 20000 in
theorem ggX7_report_X2_save : GoodIn wsX7_report wsX2_save := goodIn_r _ [36, 37, 38, 39, 40, 41, 35, 42, 43, 44, 45, 11, 46, 47, 48, 18, 49, 50, 51, 52, 53, 54, 55, 56, 19, 57, 58, 59, 60, 23, 61, 62, 31, 63, 64, 65, 66, 67, 68, 25, 26, 69, 70, 71, 72, 73, 74, 75, 76, 77, 78, 79, 80, 153, 154, 144, 145, 146, 147, 148, 149, 150, 151, 152, 129, 130, 131, 132, 133, 134, 135, 136, 137, 138, 139, 140, 141, 142, 143, 155, 156, 157] (by decide +kernel) (by decide +kernel)
set_option maxRecDepth 20000 in
theorem gX7_report_X2_save : GoodIn wsX7_report (wsV RX7 52 RX2 yX2_save wsX2_save) := goodIn_app (goodIn_of _ (by decide +kernel)) ggX7_report_X2_save
set_option maxRecDepth 20000 in
theorem ggX7_report_X1_costOfFault : GoodIn wsX7_report wsX1_costOfFault := goodIn_r _ [84, 31, 85, 86, 87, 88, 89, 90, 91, 92, 93, 94, 23, 95, 70, 96, 97, 98, 99, 100, 72, 129, 130, 131, 132, 133, 134, 135, 136, 137, 138, 139, 140, 141, 142, 143] (by decide +kernel) (by decide +kernel)
set_option maxRecDepth 20000 in
theorem gX7_report_X1_costOfFault : GoodIn wsX7_report (wsV RX7 250 RX1 yX1_costOfFault wsX1_costOfFault) := goodIn_app (goodIn_of _ (by decide +kernel)) ggX7_report_X1_costOfFault
set_option maxRecDepth 20000 in
theorem ggX7_report_X0_takeFromDeposit : GoodIn wsX7_report wsX0_takeFromDeposit := goodIn_r _ [104, 105, 106, 107, 108, 109, 54, 110, 111, 112, 113, 11, 114, 55, 115, 116, 117, 118, 48, 129, 130, 131, 132, 133, 134, 135, 136, 137, 138, 139, 140, 141, 142, 143, 144, 145, 146, 147, 148, 149, 150, 151, 152] (by decide +kernel) (by decide +kernel)
set_option maxRecDepth 20000 in
theorem gX7_report_X0_takeFromDeposit : GoodIn wsX7_report (wsV RX7 253 RX0 yX0_takeFromDeposit wsX0_takeFromDeposit) := goodIn_app (goodIn_of _ (by decide +kernel)) ggX7_report_X0_takeFromDeposit
set_option maxRecDepth 20000 in
theorem ggX7_report_X1_addFault : GoodIn wsX7_report wsX1_addFault := goodIn_r _ [122, 70, 72, 129, 130, 131, 132, 133, 134, 135, 136, 137, 138, 139, 140, 141, 142, 143] (by decide +kernel) (by decide +kernel)
set_option maxRecDepth 20000 in
theorem gX7_report_X1_addFault : GoodIn wsX7_report (wsV RX7 257 RX1 yX1_addFault wsX1_addFault) := goodIn_app (goodIn_of _ (by decide +kernel)) ggX7_report_X1_addFault
theorem dX7_report_0 : decode cX7_report 0 = .ok (.aload_n 0, 1) := by decide +kernel
theorem dX7_report_1 : decode cX7_report 1 = .ok (.getfield 10, 3) := by decide +kernel
theorem dX7_report_4 : decode cX7_report 4 = .ok (.iload_n 1, 1) := by decide +kernel
theorem dX7_report_5 : decode cX7_report 5 = .ok (.invokevirtual 144, 3) := by decide +kernel
theorem dX7_report_8 : decode cX7_report 8 = .ok (.astore_n 3, 1) := by decide +kernel
theorem dX7_report_9 : decode cX7_report 9 = .ok (.aload_n 3, 1) := by decide +kernel
theorem dX7_report_10 : decode cX7_report 10 = .ok (.ifnull 12, 3) := by decide +kernel
theorem dX7_report_13 : decode cX7_report 13 = .ok (.iload_n 2, 1) := by decide +kernel
theorem dX7_report_14 : decode cX7_report 14 = .ok (.ifCond .lt 8, 3) := by decide +kernel
theorem dX7_report_17 : decode cX7_report 17 = .ok (.iload_n 2, 1) := by decide +kernel
theorem dX7_report_18 : decode cX7_report 18 = .ok (.iconst 3, 1) := by decide +kernel
theorem dX7_report_19 : decode cX7_report 19 = .ok (.if_icmp .le 6, 3) := by decide +kernel
theorem dX7_report_22 : decode cX7_report 22 = .ok (.ldc 60, 2) := by decide +kernel
theorem dX7_report_24 : decode cX7_report 24 = .ok (.ireturn, 1) := by decide +kernel
theorem dX7_report_25 : decode cX7_report 25 = .ok (.aload_n 3, 1) := by decide +kernel
theorem dX7_report_26 : decode cX7_report 26 = .ok (.iload_n 1, 1) := by decide +kernel
theorem dX7_report_27 : decode cX7_report 27 = .ok (.bipush 20, 2) := by decide +kernel
theorem dX7_report_29 : decode cX7_report 29 = .ok (.irem, 1) := by decide +kernel
theorem dX7_report_30 : decode cX7_report 30 = .ok (.invokevirtual 150, 3) := by decide +kernel
theorem dX7_report_33 : decode cX7_report 33 = .ok (.iconst 1, 1) := by decide +kernel
theorem dX7_report_34 : decode cX7_report 34 = .ok (.if_icmp .ne 18, 3) := by decide +kernel
theorem dX7_report_37 : decode cX7_report 37 = .ok (.aload_n 3, 1) := by decide +kernel
theorem dX7_report_38 : decode cX7_report 38 = .ok (.getfield 240, 3) := by decide +kernel
theorem dX7_report_41 : decode cX7_report 41 = .ok (.ifCond .ne 11, 3) := by decide +kernel
theorem dX7_report_44 : decode cX7_report 44 = .ok (.aload_n 3, 1) := by decide +kernel
theorem dX7_report_45 : decode cX7_report 45 = .ok (.iload_n 2, 1) := by decide +kernel
theorem dX7_report_46 : decode cX7_report 46 = .ok (.invokevirtual 244, 3) := by decide +kernel
theorem dX7_report_49 : decode cX7_report 49 = .ok (.ifCond .ne 6, 3) := by decide +kernel
theorem dX7_report_52 : decode cX7_report 52 = .ok (.ldc 119, 2) := by decide +kernel
theorem dX7_report_54 : decode cX7_report 54 = .ok (.ireturn, 1) := by decide +kernel
theorem dX7_report_55 : decode cX7_report 55 = .ok (.aload_n 3, 1) := by decide +kernel
theorem dX7_report_56 : decode cX7_report 56 = .ok (.getfield 247, 3) := by decide +kernel
theorem dX7_report_59 : decode cX7_report 59 = .ok (.bipush 8, 2) := by decide +kernel
theorem dX7_report_61 : decode cX7_report 61 = .ok (.if_icmp .lt 6, 3) := by decide +kernel
theorem dX7_report_64 : decode cX7_report 64 = .ok (.ldc 51, 2) := by decide +kernel
theorem dX7_report_66 : decode cX7_report 66 = .ok (.ireturn, 1) := by decide +kernel
theorem dX7_report_67 : decode cX7_report 67 = .ok (.aload_n 0, 1) := by decide +kernel
theorem dX7_report_68 : decode cX7_report 68 = .ok (.getfield 19, 3) := by decide +kernel
theorem dX7_report_71 : decode cX7_report 71 = .ok (.aload_n 0, 1) := by decide +kernel
theorem dX7_report_72 : decode cX7_report 72 = .ok (.getfield 10, 3) := by decide +kernel
theorem dX7_report_75 : decode cX7_report 75 = .ok (.invokevirtual 52, 3) := by decide +kernel
theorem dX7_report_78 : decode cX7_report 78 = .ok (.aload_n 3, 1) := by decide +kernel
theorem dX7_report_79 : decode cX7_report 79 = .ok (.iload_n 2, 1) := by decide +kernel
theorem dX7_report_80 : decode cX7_report 80 = .ok (.invokevirtual 250, 3) := by decide +kernel
theorem dX7_report_83 : decode cX7_report 83 = .ok (.istore 4, 2) := by decide +kernel
theorem dX7_report_85 : decode cX7_report 85 = .ok (.aload_n 0, 1) := by decide +kernel
theorem dX7_report_86 : decode cX7_report 86 = .ok (.getfield 10, 3) := by decide +kernel
theorem dX7_report_89 : decode cX7_report 89 = .ok (.aload_n 3, 1) := by decide +kernel
theorem dX7_report_90 : decode cX7_report 90 = .ok (.iload 4, 2) := by decide +kernel
theorem dX7_report_92 : decode cX7_report 92 = .ok (.iconst 4, 1) := by decide +kernel
theorem dX7_report_93 : decode cX7_report 93 = .ok (.invokevirtual 253, 3) := by decide +kernel
theorem dX7_report_96 : decode cX7_report 96 = .ok (.istore 5, 2) := by decide +kernel
theorem dX7_report_98 : decode cX7_report 98 = .ok (.aload_n 3, 1) := by decide +kernel
theorem dX7_report_99 : decode cX7_report 99 = .ok (.iload_n 2, 1) := by decide +kernel
theorem dX7_report_100 : decode cX7_report 100 = .ok (.iload_n 1, 1) := by decide +kernel
theorem dX7_report_101 : decode cX7_report 101 = .ok (.iload 4, 2) := by decide +kernel
theorem dX7_report_103 : decode cX7_report 103 = .ok (.iload 5, 2) := by decide +kernel
theorem dX7_report_105 : decode cX7_report 105 = .ok (.invokevirtual 257, 3) := by decide +kernel
theorem dX7_report_108 : decode cX7_report 108 = .ok (.iload 4, 2) := by decide +kernel
theorem dX7_report_110 : decode cX7_report 110 = .ok (.ireturn, 1) := by decide +kernel
set_option maxRecDepth 20000 in
theorem ggX7_fault_X0_hireAt : GoodIn wsX7_fault wsX0_hireAt := goodIn_r _ [7, 8, 9, 24, 25, 26, 27, 28, 29, 30, 31, 32] (by decide +kernel) (by decide +kernel)
set_option maxRecDepth 20000 in
theorem gX7_fault_X0_hireAt : GoodIn wsX7_fault (wsV RX7 132 RX0 yX0_hireAt wsX0_hireAt) := goodIn_app (goodIn_of _ (by decide +kernel)) ggX7_fault_X0_hireAt
set_option maxRecDepth 20000 in
theorem ggX7_fault_X1_faultProperty : GoodIn wsX7_fault wsX1_faultProperty := goodIn_r _ [14, 15, 16, 17, 33, 34, 35, 36, 37, 38, 39, 40, 41, 42, 43, 44, 45, 46, 47] (by decide +kernel) (by decide +kernel)
set_option maxRecDepth 20000 in
theorem gX7_fault_X1_faultProperty : GoodIn wsX7_fault (wsV RX7 261 RX1 yX1_faultProperty wsX1_faultProperty) := goodIn_app (goodIn_of _ (by decide +kernel)) ggX7_fault_X1_faultProperty
theorem dX7_fault_0 : decode cX7_fault 0 = .ok (.aload_n 0, 1) := by decide +kernel
theorem dX7_fault_1 : decode cX7_fault 1 = .ok (.getfield 10, 3) := by decide +kernel
theorem dX7_fault_4 : decode cX7_fault 4 = .ok (.iload_n 1, 1) := by decide +kernel
theorem dX7_fault_5 : decode cX7_fault 5 = .ok (.invokevirtual 132, 3) := by decide +kernel
theorem dX7_fault_8 : decode cX7_fault 8 = .ok (.astore 4, 2) := by decide +kernel
theorem dX7_fault_10 : decode cX7_fault 10 = .ok (.aload 4, 2) := by decide +kernel
theorem dX7_fault_12 : decode cX7_fault 12 = .ok (.ifnull 16, 3) := by decide +kernel
theorem dX7_fault_15 : decode cX7_fault 15 = .ok (.iload_n 2, 1) := by decide +kernel
theorem dX7_fault_16 : decode cX7_fault 16 = .ok (.ifCond .lt 12, 3) := by decide +kernel
theorem dX7_fault_19 : decode cX7_fault 19 = .ok (.iload_n 3, 1) := by decide +kernel
theorem dX7_fault_20 : decode cX7_fault 20 = .ok (.ifCond .lt 8, 3) := by decide +kernel
theorem dX7_fault_23 : decode cX7_fault 23 = .ok (.iload_n 3, 1) := by decide +kernel
theorem dX7_fault_24 : decode cX7_fault 24 = .ok (.iconst 4, 1) := by decide +kernel
theorem dX7_fault_25 : decode cX7_fault 25 = .ok (.if_icmp .lt 6, 3) := by decide +kernel
theorem dX7_fault_28 : decode cX7_fault 28 = .ok (.ldc 60, 2) := by decide +kernel
theorem dX7_fault_30 : decode cX7_fault 30 = .ok (.ireturn, 1) := by decide +kernel
theorem dX7_fault_31 : decode cX7_fault 31 = .ok (.aload 4, 2) := by decide +kernel
theorem dX7_fault_33 : decode cX7_fault 33 = .ok (.iload_n 2, 1) := by decide +kernel
theorem dX7_fault_34 : decode cX7_fault 34 = .ok (.iload_n 3, 1) := by decide +kernel
theorem dX7_fault_35 : decode cX7_fault 35 = .ok (.invokevirtual 261, 3) := by decide +kernel
theorem dX7_fault_38 : decode cX7_fault 38 = .ok (.ireturn, 1) := by decide +kernel
set_option maxRecDepth 20000 in
theorem ggX7_settle_X0_hireAt : GoodIn wsX7_settle wsX0_hireAt := goodIn_r _ [10, 11, 12, 118, 119, 120, 121, 122, 123, 124, 125, 126] (by decide +kernel) (by decide +kernel)
set_option maxRecDepth 20000 in
theorem gX7_settle_X0_hireAt : GoodIn wsX7_settle (wsV RX7 132 RX0 yX0_hireAt wsX0_hireAt) := goodIn_app (goodIn_of _ (by decide +kernel)) ggX7_settle_X0_hireAt
set_option maxRecDepth 20000 in
theorem ggX7_settle_X1_plannedSessions : GoodIn wsX7_settle wsX1_plannedSessions := goodIn_r _ [17, 18, 19, 20, 21, 22, 23, 24, 25, 26, 27, 103, 104, 105, 106, 107, 108, 109, 110, 111, 112, 113, 114, 115, 116, 117] (by decide +kernel) (by decide +kernel)
set_option maxRecDepth 20000 in
theorem gX7_settle_X1_plannedSessions : GoodIn wsX7_settle (wsV RX7 264 RX1 yX1_plannedSessions wsX1_plannedSessions) := goodIn_app (goodIn_of _ (by decide +kernel)) ggX7_settle_X1_plannedSessions
set_option maxRecDepth 20000 in
theorem ggX7_settle_X0_keysFor : GoodIn wsX7_settle wsX0_keysFor := goodIn_r _ [31, 32, 33, 118, 119, 120, 121, 122, 123, 124, 125, 126, 127, 128, 129] (by decide +kernel) (by decide +kernel)
set_option maxRecDepth 20000 in
theorem gX7_settle_X0_keysFor : GoodIn wsX7_settle (wsV RX7 136 RX0 yX0_keysFor wsX0_keysFor) := goodIn_app (goodIn_of _ (by decide +kernel)) ggX7_settle_X0_keysFor
set_option maxRecDepth 20000 in
theorem ggX7_settle_X2_save : GoodIn wsX7_settle wsX2_save := goodIn_r _ [38, 39, 40, 41, 42, 43, 37, 44, 45, 46, 47, 9, 48, 49, 50, 11, 51, 52, 53, 54, 55, 56, 57, 58, 12, 32, 59, 60, 61, 16, 62, 63, 64, 65, 66, 18, 67, 68, 69, 19, 20, 70, 71, 72, 73, 74, 75, 76, 77, 78, 79, 80, 81, 130, 131, 118, 119, 120, 121, 122, 123, 124, 125, 126, 103, 104, 105, 106, 107, 108, 109, 110, 111, 112, 113, 114, 115, 116, 117, 127, 128, 129] (by decide +kernel) (by decide +kernel)
set_option maxRecDepth 20000 in
theorem gX7_settle_X2_save : GoodIn wsX7_settle (wsV RX7 52 RX2 yX2_save wsX2_save) := goodIn_app (goodIn_of _ (by decide +kernel)) ggX7_settle_X2_save
set_option maxRecDepth 20000 in
theorem ggX7_settle_X0_giveDepositBack : GoodIn wsX7_settle wsX0_giveDepositBack := goodIn_r _ [85, 86, 87, 56, 88, 89, 90, 91, 9, 92, 58, 93, 94, 95, 96, 50, 103, 104, 105, 106, 107, 108, 109, 110, 111, 112, 113, 114, 115, 116, 117, 118, 119, 120, 121, 122, 123, 124, 125, 126] (by decide +kernel) (by decide +kernel)
set_option maxRecDepth 20000 in
theorem gX7_settle_X0_giveDepositBack : GoodIn wsX7_settle (wsV RX7 267 RX0 yX0_giveDepositBack wsX0_giveDepositBack) := goodIn_app (goodIn_of _ (by decide +kernel)) ggX7_settle_X0_giveDepositBack
theorem dX7_settle_0 : decode cX7_settle 0 = .ok (.aload_n 0, 1) := by decide +kernel
theorem dX7_settle_1 : decode cX7_settle 1 = .ok (.getfield 10, 3) := by decide +kernel
theorem dX7_settle_4 : decode cX7_settle 4 = .ok (.iload_n 1, 1) := by decide +kernel
theorem dX7_settle_5 : decode cX7_settle 5 = .ok (.invokevirtual 132, 3) := by decide +kernel
theorem dX7_settle_8 : decode cX7_settle 8 = .ok (.astore_n 2, 1) := by decide +kernel
theorem dX7_settle_9 : decode cX7_settle 9 = .ok (.aload_n 2, 1) := by decide +kernel
theorem dX7_settle_10 : decode cX7_settle 10 = .ok (.ifnonnull 6, 3) := by decide +kernel
theorem dX7_settle_13 : decode cX7_settle 13 = .ok (.ldc 60, 2) := by decide +kernel
theorem dX7_settle_15 : decode cX7_settle 15 = .ok (.ireturn, 1) := by decide +kernel
theorem dX7_settle_16 : decode cX7_settle 16 = .ok (.aload_n 2, 1) := by decide +kernel
theorem dX7_settle_17 : decode cX7_settle 17 = .ok (.getfield 240, 3) := by decide +kernel
theorem dX7_settle_20 : decode cX7_settle 20 = .ok (.ifCond .ne 21, 3) := by decide +kernel
theorem dX7_settle_23 : decode cX7_settle 23 = .ok (.aload_n 2, 1) := by decide +kernel
theorem dX7_settle_24 : decode cX7_settle 24 = .ok (.invokevirtual 264, 3) := by decide +kernel
theorem dX7_settle_27 : decode cX7_settle 27 = .ok (.ifCond .gt 14, 3) := by decide +kernel
theorem dX7_settle_30 : decode cX7_settle 30 = .ok (.aload_n 0, 1) := by decide +kernel
theorem dX7_settle_31 : decode cX7_settle 31 = .ok (.getfield 10, 3) := by decide +kernel
theorem dX7_settle_34 : decode cX7_settle 34 = .ok (.iload_n 1, 1) := by decide +kernel
theorem dX7_settle_35 : decode cX7_settle 35 = .ok (.invokevirtual 136, 3) := by decide +kernel
theorem dX7_settle_38 : decode cX7_settle 38 = .ok (.ifCond .le 6, 3) := by decide +kernel
theorem dX7_settle_41 : decode cX7_settle 41 = .ok (.ldc 119, 2) := by decide +kernel
theorem dX7_settle_43 : decode cX7_settle 43 = .ok (.ireturn, 1) := by decide +kernel
theorem dX7_settle_44 : decode cX7_settle 44 = .ok (.aload_n 0, 1) := by decide +kernel
theorem dX7_settle_45 : decode cX7_settle 45 = .ok (.getfield 19, 3) := by decide +kernel
theorem dX7_settle_48 : decode cX7_settle 48 = .ok (.aload_n 0, 1) := by decide +kernel
theorem dX7_settle_49 : decode cX7_settle 49 = .ok (.getfield 10, 3) := by decide +kernel
theorem dX7_settle_52 : decode cX7_settle 52 = .ok (.invokevirtual 52, 3) := by decide +kernel
theorem dX7_settle_55 : decode cX7_settle 55 = .ok (.aload_n 0, 1) := by decide +kernel
theorem dX7_settle_56 : decode cX7_settle 56 = .ok (.getfield 10, 3) := by decide +kernel
theorem dX7_settle_59 : decode cX7_settle 59 = .ok (.aload_n 2, 1) := by decide +kernel
theorem dX7_settle_60 : decode cX7_settle 60 = .ok (.invokevirtual 267, 3) := by decide +kernel
theorem dX7_settle_63 : decode cX7_settle 63 = .ok (.ireturn, 1) := by decide +kernel
set_option maxRecDepth 20000 in
theorem ggX7_type_X4_append : GoodIn wsX7_type wsX4_append := goodIn_r _ [9, 10, 11, 18, 19, 20] (by decide +kernel) (by decide +kernel)
set_option maxRecDepth 20000 in
theorem gX7_type_X4_append : GoodIn wsX7_type (wsV RX7 271 RX4 yX4_append wsX4_append) := goodIn_app (goodIn_of _ (by decide +kernel)) ggX7_type_X4_append
theorem dX7_type_0 : decode cX7_type 0 = .ok (.iload_n 1, 1) := by decide +kernel
theorem dX7_type_1 : decode cX7_type 1 = .ok (.bipush 32, 2) := by decide +kernel
theorem dX7_type_3 : decode cX7_type 3 = .ok (.if_icmp .lt 9, 3) := by decide +kernel
theorem dX7_type_6 : decode cX7_type 6 = .ok (.iload_n 1, 1) := by decide +kernel
theorem dX7_type_7 : decode cX7_type 7 = .ok (.bipush 126, 2) := by decide +kernel
theorem dX7_type_9 : decode cX7_type 9 = .ok (.if_icmp .le 6, 3) := by decide +kernel
theorem dX7_type_12 : decode cX7_type 12 = .ok (.ldc 60, 2) := by decide +kernel
theorem dX7_type_14 : decode cX7_type 14 = .ok (.ireturn, 1) := by decide +kernel
theorem dX7_type_15 : decode cX7_type 15 = .ok (.aload_n 0, 1) := by decide +kernel
theorem dX7_type_16 : decode cX7_type 16 = .ok (.getfield 26, 3) := by decide +kernel
theorem dX7_type_19 : decode cX7_type 19 = .ok (.iload_n 1, 1) := by decide +kernel
theorem dX7_type_20 : decode cX7_type 20 = .ok (.invokevirtual 271, 3) := by decide +kernel
theorem dX7_type_23 : decode cX7_type 23 = .ok (.ifCond .eq 13, 3) := by decide +kernel
theorem dX7_type_26 : decode cX7_type 26 = .ok (.aload_n 0, 1) := by decide +kernel
theorem dX7_type_27 : decode cX7_type 27 = .ok (.getfield 26, 3) := by decide +kernel
theorem dX7_type_30 : decode cX7_type 30 = .ok (.getfield 203, 3) := by decide +kernel
theorem dX7_type_33 : decode cX7_type 33 = .ok (.goto 5, 3) := by decide +kernel
theorem dX7_type_36 : decode cX7_type 36 = .ok (.ldc 51, 2) := by decide +kernel
theorem dX7_type_38 : decode cX7_type 38 = .ok (.ireturn, 1) := by decide +kernel
theorem dX7_clearText_0 : decode cX7_clearText 0 = .ok (.aload_n 0, 1) := by decide +kernel
theorem dX7_clearText_1 : decode cX7_clearText 1 = .ok (.getfield 26, 3) := by decide +kernel
theorem dX7_clearText_4 : decode cX7_clearText 4 = .ok (.getfield 203, 3) := by decide +kernel
theorem dX7_clearText_7 : decode cX7_clearText 7 = .ok (.istore_n 1, 1) := by decide +kernel
theorem dX7_clearText_8 : decode cX7_clearText 8 = .ok (.aload_n 0, 1) := by decide +kernel
theorem dX7_clearText_9 : decode cX7_clearText 9 = .ok (.getfield 26, 3) := by decide +kernel
theorem dX7_clearText_12 : decode cX7_clearText 12 = .ok (.iconst 0, 1) := by decide +kernel
theorem dX7_clearText_13 : decode cX7_clearText 13 = .ok (.putfield 203, 3) := by decide +kernel
theorem dX7_clearText_16 : decode cX7_clearText 16 = .ok (.iload_n 1, 1) := by decide +kernel
theorem dX7_clearText_17 : decode cX7_clearText 17 = .ok (.ireturn, 1) := by decide +kernel
set_option maxRecDepth 20000 in
theorem ggX7_textFault_X5_run : GoodIn wsX7_textFault wsX5_run := goodIn_r _ [12, 13, 14, 15, 16, 17, 18, 19, 20, 21, 22, 23, 24, 25, 26, 27, 28, 29, 30, 31, 32, 33, 34, 35, 36, 37, 38, 39, 40, 41, 42, 43, 44, 45, 46, 47, 48, 49, 50, 51, 52, 53, 54, 55, 56, 57, 58, 59, 60, 61, 62, 63, 64, 65, 66, 67, 68, 69, 70, 71, 72, 73, 74, 75, 76, 77, 78, 79, 80, 81, 82, 83, 84, 85, 86, 87, 88, 89, 90, 91, 92, 93, 94, 95, 96, 97, 98, 99, 100, 101, 102, 103, 104, 105, 106, 107, 108, 109, 110, 111, 112, 113, 11, 114, 115, 116, 117, 118, 119, 120, 121, 122, 123, 124, 125, 126, 127, 128, 129, 130, 131, 132, 133, 134, 135, 136, 137, 138, 139, 140, 141, 142, 143, 144, 145, 146, 147, 148, 149, 150, 151, 152, 153, 154, 155, 156, 157, 158, 159, 160, 161, 162, 163, 164, 165, 166, 167, 168, 169, 170, 171, 172, 173, 174, 175, 176, 177, 178, 179, 180, 181, 182, 183, 184, 185, 186, 187, 188, 189, 190, 191, 192, 193, 194, 195, 196, 197, 198, 199, 200, 201, 202, 203, 204, 205, 206, 207, 208, 209, 210, 211, 212, 213, 214, 221, 222, 223, 224, 225, 226, 227, 228, 229, 230, 231, 232, 233, 234, 235, 236, 237, 238, 239, 240, 241, 242, 243, 244, 245, 246, 247, 248, 249, 250, 251, 252, 253, 254, 255, 256, 257, 258, 259, 260, 261, 262, 263] (by decide +kernel) (by decide +kernel)
set_option maxRecDepth 20000 in
theorem gX7_textFault_X5_run : GoodIn wsX7_textFault (wsV RX7 274 RX5 yX5_run wsX5_run) := goodIn_app (goodIn_of _ (by decide +kernel)) ggX7_textFault_X5_run
theorem dX7_textFault_0 : decode cX7_textFault 0 = .ok (.iload_n 1, 1) := by decide +kernel
theorem dX7_textFault_1 : decode cX7_textFault 1 = .ok (.ifCond .lt 8, 3) := by decide +kernel
theorem dX7_textFault_4 : decode cX7_textFault 4 = .ok (.iload_n 1, 1) := by decide +kernel
theorem dX7_textFault_5 : decode cX7_textFault 5 = .ok (.iconst 1, 1) := by decide +kernel
theorem dX7_textFault_6 : decode cX7_textFault 6 = .ok (.if_icmp .le 6, 3) := by decide +kernel
theorem dX7_textFault_9 : decode cX7_textFault 9 = .ok (.ldc 60, 2) := by decide +kernel
theorem dX7_textFault_11 : decode cX7_textFault 11 = .ok (.ireturn, 1) := by decide +kernel
theorem dX7_textFault_12 : decode cX7_textFault 12 = .ok (.aload_n 0, 1) := by decide +kernel
theorem dX7_textFault_13 : decode cX7_textFault 13 = .ok (.getfield 33, 3) := by decide +kernel
theorem dX7_textFault_16 : decode cX7_textFault 16 = .ok (.aload_n 0, 1) := by decide +kernel
theorem dX7_textFault_17 : decode cX7_textFault 17 = .ok (.getfield 10, 3) := by decide +kernel
theorem dX7_textFault_20 : decode cX7_textFault 20 = .ok (.aload_n 0, 1) := by decide +kernel
theorem dX7_textFault_21 : decode cX7_textFault 21 = .ok (.getfield 26, 3) := by decide +kernel
theorem dX7_textFault_24 : decode cX7_textFault 24 = .ok (.invokevirtual 274, 3) := by decide +kernel
theorem dX7_textFault_27 : decode cX7_textFault 27 = .ok (.aload_n 0, 1) := by decide +kernel
theorem dX7_textFault_28 : decode cX7_textFault 28 = .ok (.getfield 33, 3) := by decide +kernel
theorem dX7_textFault_31 : decode cX7_textFault 31 = .ok (.getfield 278, 3) := by decide +kernel
theorem dX7_textFault_34 : decode cX7_textFault 34 = .ok (.ifCond .ne 6, 3) := by decide +kernel
theorem dX7_textFault_37 : decode cX7_textFault 37 = .ok (.ldc 131, 2) := by decide +kernel
theorem dX7_textFault_39 : decode cX7_textFault 39 = .ok (.ireturn, 1) := by decide +kernel
theorem dX7_textFault_40 : decode cX7_textFault 40 = .ok (.iload_n 1, 1) := by decide +kernel
theorem dX7_textFault_41 : decode cX7_textFault 41 = .ok (.ifCond .ne 13, 3) := by decide +kernel
theorem dX7_textFault_44 : decode cX7_textFault 44 = .ok (.aload_n 0, 1) := by decide +kernel
theorem dX7_textFault_45 : decode cX7_textFault 45 = .ok (.getfield 33, 3) := by decide +kernel
theorem dX7_textFault_48 : decode cX7_textFault 48 = .ok (.getfield 281, 3) := by decide +kernel
theorem dX7_textFault_51 : decode cX7_textFault 51 = .ok (.goto 10, 3) := by decide +kernel
theorem dX7_textFault_54 : decode cX7_textFault 54 = .ok (.aload_n 0, 1) := by decide +kernel
theorem dX7_textFault_55 : decode cX7_textFault 55 = .ok (.getfield 33, 3) := by decide +kernel
theorem dX7_textFault_58 : decode cX7_textFault 58 = .ok (.getfield 278, 3) := by decide +kernel
theorem dX7_textFault_61 : decode cX7_textFault 61 = .ok (.ireturn, 1) := by decide +kernel
set_option maxRecDepth 20000 in
theorem ggX7_enter_X5_run : GoodIn wsX7_enter wsX5_run := goodIn_r _ [15, 16, 17, 18, 19, 20, 21, 22, 23, 24, 25, 26, 27, 28, 29, 30, 31, 32, 33, 34, 35, 36, 37, 38, 39, 40, 41, 42, 43, 44, 45, 46, 47, 48, 49, 50, 51, 52, 53, 54, 55, 56, 57, 58, 59, 60, 61, 62, 63, 64, 65, 66, 67, 68, 69, 70, 71, 72, 73, 74, 75, 76, 77, 78, 79, 80, 81, 82, 83, 84, 85, 86, 87, 88, 89, 90, 91, 92, 93, 94, 95, 96, 97, 98, 99, 100, 101, 102, 103, 104, 105, 106, 107, 108, 109, 110, 111, 112, 113, 114, 115, 116, 14, 117, 118, 119, 120, 121, 122, 123, 124, 125, 126, 127, 128, 129, 130, 131, 132, 133, 134, 135, 136, 137, 138, 139, 140, 141, 142, 143, 144, 145, 146, 147, 148, 149, 150, 151, 152, 153, 154, 155, 156, 157, 158, 159, 160, 161, 162, 163, 164, 165, 166, 167, 168, 169, 170, 171, 172, 173, 174, 175, 176, 177, 178, 179, 180, 181, 182, 183, 184, 185, 186, 187, 188, 189, 190, 191, 192, 193, 194, 195, 196, 197, 198, 199, 200, 201, 202, 203, 204, 205, 206, 207, 208, 209, 210, 211, 212, 213, 214, 215, 216, 217, 237, 238, 239, 240, 241, 242, 243, 244, 245, 246, 247, 248, 249, 250, 251, 252, 253, 254, 255, 256, 257, 258, 259, 260, 261, 262, 263, 264, 265, 266, 267, 268, 269, 270, 271, 272, 273, 274, 275, 276, 277, 278, 279] (by decide +kernel) (by decide +kernel)
set_option maxRecDepth 20000 in
theorem gX7_enter_X5_run : GoodIn wsX7_enter (wsV RX7 274 RX5 yX5_run wsX5_run) := goodIn_app (goodIn_of _ (by decide +kernel)) ggX7_enter_X5_run
set_option maxRecDepth 20000 in
theorem ggX7_enter_X2_save : GoodIn wsX7_enter wsX2_save := goodIn_r _ [222, 223, 224, 225, 226, 227, 221, 228, 229, 23, 24, 25, 26, 27, 28, 29, 30, 31, 32, 33, 34, 35, 36, 37, 38, 39, 40, 41, 42, 43, 44, 45, 46, 47, 48, 49, 50, 51, 52, 53, 54, 55, 56, 57, 58, 59, 60, 61, 62, 63, 64, 65, 66, 280, 281, 246, 247, 248, 249, 250, 251, 252, 253, 254, 255, 256, 257, 258, 259, 260, 261, 262, 263, 264, 265, 266, 267, 268, 269, 270, 271, 272] (by decide +kernel) (by decide +kernel)
set_option maxRecDepth 20000 in
theorem gX7_enter_X2_save : GoodIn wsX7_enter (wsV RX7 52 RX2 yX2_save wsX2_save) := goodIn_app (goodIn_of _ (by decide +kernel)) ggX7_enter_X2_save
set_option maxRecDepth 20000 in
theorem ggX7_enter_X0_copyFrom : GoodIn wsX7_enter wsX0_copyFrom := goodIn_r _ [26, 27, 28, 29, 30, 31, 32, 33, 34, 35, 36, 37, 38, 39, 40, 41, 42, 43, 44, 45, 46, 47, 48, 49, 50, 51, 52, 53, 54, 55, 56, 57, 58, 59, 60, 61, 62, 63, 64, 65, 66, 246, 247, 248, 249, 250, 251, 252, 253, 254, 255, 256, 257, 258, 259, 260, 261, 262, 263, 264, 265, 266, 267, 268, 269, 270, 271, 272] (by decide +kernel) (by decide +kernel)
set_option maxRecDepth 20000 in
theorem gX7_enter_X0_copyFrom : GoodIn wsX7_enter (wsV RX7 288 RX0 yX0_copyFrom wsX0_copyFrom) := goodIn_app (goodIn_of _ (by decide +kernel)) ggX7_enter_X0_copyFrom
theorem dX7_enter_0 : decode cX7_enter 0 = .ok (.aload_n 0, 1) := by decide +kernel
theorem dX7_enter_1 : decode cX7_enter 1 = .ok (.getfield 33, 3) := by decide +kernel
theorem dX7_enter_4 : decode cX7_enter 4 = .ok (.aload_n 0, 1) := by decide +kernel
theorem dX7_enter_5 : decode cX7_enter 5 = .ok (.getfield 10, 3) := by decide +kernel
theorem dX7_enter_8 : decode cX7_enter 8 = .ok (.aload_n 0, 1) := by decide +kernel
theorem dX7_enter_9 : decode cX7_enter 9 = .ok (.getfield 26, 3) := by decide +kernel
theorem dX7_enter_12 : decode cX7_enter 12 = .ok (.invokevirtual 274, 3) := by decide +kernel
theorem dX7_enter_15 : decode cX7_enter 15 = .ok (.aload_n 0, 1) := by decide +kernel
theorem dX7_enter_16 : decode cX7_enter 16 = .ok (.getfield 33, 3) := by decide +kernel
theorem dX7_enter_19 : decode cX7_enter 19 = .ok (.getfield 278, 3) := by decide +kernel
theorem dX7_enter_22 : decode cX7_enter 22 = .ok (.iconst 4, 1) := by decide +kernel
theorem dX7_enter_23 : decode cX7_enter 23 = .ok (.if_icmp .ne 14, 3) := by decide +kernel
theorem dX7_enter_26 : decode cX7_enter 26 = .ok (.aload_n 0, 1) := by decide +kernel
theorem dX7_enter_27 : decode cX7_enter 27 = .ok (.aload_n 0, 1) := by decide +kernel
theorem dX7_enter_28 : decode cX7_enter 28 = .ok (.getfield 33, 3) := by decide +kernel
theorem dX7_enter_31 : decode cX7_enter 31 = .ok (.getfield 284, 3) := by decide +kernel
theorem dX7_enter_34 : decode cX7_enter 34 = .ok (.putfield 44, 3) := by decide +kernel
theorem dX7_enter_37 : decode cX7_enter 37 = .ok (.aload_n 0, 1) := by decide +kernel
theorem dX7_enter_38 : decode cX7_enter 38 = .ok (.getfield 33, 3) := by decide +kernel
theorem dX7_enter_41 : decode cX7_enter 41 = .ok (.getfield 278, 3) := by decide +kernel
theorem dX7_enter_44 : decode cX7_enter 44 = .ok (.ifCond .eq 6, 3) := by decide +kernel
theorem dX7_enter_47 : decode cX7_enter 47 = .ok (.ldc 119, 2) := by decide +kernel
theorem dX7_enter_49 : decode cX7_enter 49 = .ok (.ireturn, 1) := by decide +kernel
theorem dX7_enter_50 : decode cX7_enter 50 = .ok (.aload_n 0, 1) := by decide +kernel
theorem dX7_enter_51 : decode cX7_enter 51 = .ok (.getfield 19, 3) := by decide +kernel
theorem dX7_enter_54 : decode cX7_enter 54 = .ok (.aload_n 0, 1) := by decide +kernel
theorem dX7_enter_55 : decode cX7_enter 55 = .ok (.getfield 10, 3) := by decide +kernel
theorem dX7_enter_58 : decode cX7_enter 58 = .ok (.invokevirtual 52, 3) := by decide +kernel
theorem dX7_enter_61 : decode cX7_enter 61 = .ok (.aload_n 0, 1) := by decide +kernel
theorem dX7_enter_62 : decode cX7_enter 62 = .ok (.getfield 10, 3) := by decide +kernel
theorem dX7_enter_65 : decode cX7_enter 65 = .ok (.aload_n 0, 1) := by decide +kernel
theorem dX7_enter_66 : decode cX7_enter 66 = .ok (.getfield 33, 3) := by decide +kernel
theorem dX7_enter_69 : decode cX7_enter 69 = .ok (.getfield 287, 3) := by decide +kernel
theorem dX7_enter_72 : decode cX7_enter 72 = .ok (.invokevirtual 288, 3) := by decide +kernel
theorem dX7_enter_75 : decode cX7_enter 75 = .ok (.aload_n 0, 1) := by decide +kernel
theorem dX7_enter_76 : decode cX7_enter 76 = .ok (.getfield 33, 3) := by decide +kernel
theorem dX7_enter_79 : decode cX7_enter 79 = .ok (.getfield 291, 3) := by decide +kernel
theorem dX7_enter_82 : decode cX7_enter 82 = .ok (.ireturn, 1) := by decide +kernel
theorem dX7_areRooms_0 : decode cX7_areRooms 0 = .ok (.iload_n 0, 1) := by decide +kernel
theorem dX7_areRooms_1 : decode cX7_areRooms 1 = .ok (.iconst 1, 1) := by decide +kernel
theorem dX7_areRooms_2 : decode cX7_areRooms 2 = .ok (.if_icmp .lt 13, 3) := by decide +kernel
theorem dX7_areRooms_5 : decode cX7_areRooms 5 = .ok (.iload_n 0, 1) := by decide +kernel
theorem dX7_areRooms_6 : decode cX7_areRooms 6 = .ok (.bipush 7, 2) := by decide +kernel
theorem dX7_areRooms_8 : decode cX7_areRooms 8 = .ok (.if_icmp .gt 7, 3) := by decide +kernel
theorem dX7_areRooms_11 : decode cX7_areRooms 11 = .ok (.iconst 1, 1) := by decide +kernel
theorem dX7_areRooms_12 : decode cX7_areRooms 12 = .ok (.goto 4, 3) := by decide +kernel
theorem dX7_areRooms_15 : decode cX7_areRooms 15 = .ok (.iconst 0, 1) := by decide +kernel
theorem dX7_areRooms_16 : decode cX7_areRooms 16 = .ok (.ireturn, 1) := by decide +kernel
theorem dX7_hoursMask_0 : decode cX7_hoursMask 0 = .ok (.iload_n 0, 1) := by decide +kernel
theorem dX7_hoursMask_1 : decode cX7_hoursMask 1 = .ok (.iconst 0, 1) := by decide +kernel
theorem dX7_hoursMask_2 : decode cX7_hoursMask 2 = .ok (.invokestatic 171, 3) := by decide +kernel
theorem dX7_hoursMask_5 : decode cX7_hoursMask 5 = .ok (.bipush 24, 2) := by decide +kernel
theorem dX7_hoursMask_7 : decode cX7_hoursMask 7 = .ok (.invokestatic 294, 3) := by decide +kernel
theorem dX7_hoursMask_10 : decode cX7_hoursMask 10 = .ok (.istore_n 2, 1) := by decide +kernel
theorem dX7_hoursMask_11 : decode cX7_hoursMask 11 = .ok (.iload_n 1, 1) := by decide +kernel
theorem dX7_hoursMask_12 : decode cX7_hoursMask 12 = .ok (.iload_n 2, 1) := by decide +kernel
theorem dX7_hoursMask_13 : decode cX7_hoursMask 13 = .ok (.invokestatic 171, 3) := by decide +kernel
theorem dX7_hoursMask_16 : decode cX7_hoursMask 16 = .ok (.bipush 24, 2) := by decide +kernel
theorem dX7_hoursMask_18 : decode cX7_hoursMask 18 = .ok (.invokestatic 294, 3) := by decide +kernel
theorem dX7_hoursMask_21 : decode cX7_hoursMask 21 = .ok (.istore_n 3, 1) := by decide +kernel
theorem dX7_hoursMask_22 : decode cX7_hoursMask 22 = .ok (.iconst 1, 1) := by decide +kernel
theorem dX7_hoursMask_23 : decode cX7_hoursMask 23 = .ok (.iload_n 3, 1) := by decide +kernel
theorem dX7_hoursMask_24 : decode cX7_hoursMask 24 = .ok (.ishl, 1) := by decide +kernel
theorem dX7_hoursMask_25 : decode cX7_hoursMask 25 = .ok (.iconst 1, 1) := by decide +kernel
theorem dX7_hoursMask_26 : decode cX7_hoursMask 26 = .ok (.iload_n 2, 1) := by decide +kernel
theorem dX7_hoursMask_27 : decode cX7_hoursMask 27 = .ok (.ishl, 1) := by decide +kernel
theorem dX7_hoursMask_28 : decode cX7_hoursMask 28 = .ok (.isub, 1) := by decide +kernel
theorem dX7_hoursMask_29 : decode cX7_hoursMask 29 = .ok (.ireturn, 1) := by decide +kernel
theorem dX7_discountOf_0 : decode cX7_discountOf 0 = .ok (.iload_n 0, 1) := by decide +kernel
theorem dX7_discountOf_1 : decode cX7_discountOf 1 = .ok (.iconst 4, 1) := by decide +kernel
theorem dX7_discountOf_2 : decode cX7_discountOf 2 = .ok (.if_icmp .ge 5, 3) := by decide +kernel
theorem dX7_discountOf_5 : decode cX7_discountOf 5 = .ok (.iconst 0, 1) := by decide +kernel
theorem dX7_discountOf_6 : decode cX7_discountOf 6 = .ok (.ireturn, 1) := by decide +kernel
theorem dX7_discountOf_7 : decode cX7_discountOf 7 = .ok (.iload_n 0, 1) := by decide +kernel
theorem dX7_discountOf_8 : decode cX7_discountOf 8 = .ok (.bipush 10, 2) := by decide +kernel
theorem dX7_discountOf_10 : decode cX7_discountOf 10 = .ok (.if_icmp .ge 8, 3) := by decide +kernel
theorem dX7_discountOf_13 : decode cX7_discountOf 13 = .ok (.bipush 10, 2) := by decide +kernel
theorem dX7_discountOf_15 : decode cX7_discountOf 15 = .ok (.goto 5, 3) := by decide +kernel
theorem dX7_discountOf_18 : decode cX7_discountOf 18 = .ok (.bipush 20, 2) := by decide +kernel
theorem dX7_discountOf_20 : decode cX7_discountOf 20 = .ok (.ireturn, 1) := by decide +kernel
theorem dX8_init_0 : decode cX8_init 0 = .ok (.aload_n 0, 1) := by decide +kernel
theorem dX8_init_1 : decode cX8_init 1 = .ok (.invokespecial 1, 3) := by decide +kernel
theorem dX8_init_4 : decode cX8_init 4 = .ok (.aload_n 0, 1) := by decide +kernel
theorem dX8_init_5 : decode cX8_init 5 = .ok (.sipush 820, 3) := by decide +kernel
theorem dX8_init_8 : decode cX8_init 8 = .ok (.newarray .int, 2) := by decide +kernel
theorem dX8_init_10 : decode cX8_init 10 = .ok (.putfield 7, 3) := by decide +kernel
theorem dX8_init_13 : decode cX8_init 13 = .ok (.aload_n 0, 1) := by decide +kernel
theorem dX8_init_14 : decode cX8_init 14 = .ok (.sipush 3280, 3) := by decide +kernel
theorem dX8_init_17 : decode cX8_init 17 = .ok (.newarray .int, 2) := by decide +kernel
theorem dX8_init_19 : decode cX8_init 19 = .ok (.putfield 13, 3) := by decide +kernel
theorem dX8_init_22 : decode cX8_init 22 = .ok (.aload_n 0, 1) := by decide +kernel
theorem dX8_init_23 : decode cX8_init 23 = .ok (.sipush 820, 3) := by decide +kernel
theorem dX8_init_26 : decode cX8_init 26 = .ok (.newarray .int, 2) := by decide +kernel
theorem dX8_init_28 : decode cX8_init 28 = .ok (.putfield 16, 3) := by decide +kernel
theorem dX8_init_31 : decode cX8_init 31 = .ok (.aload_n 0, 1) := by decide +kernel
theorem dX8_init_32 : decode cX8_init 32 = .ok (.ldc 19, 2) := by decide +kernel
theorem dX8_init_34 : decode cX8_init 34 = .ok (.putfield 20, 3) := by decide +kernel
theorem dX8_init_37 : decode cX8_init 37 = .ok (.aload_n 0, 1) := by decide +kernel
theorem dX8_init_38 : decode cX8_init 38 = .ok (.bipush 80, 2) := by decide +kernel
theorem dX8_init_40 : decode cX8_init 40 = .ok (.newarray .int, 2) := by decide +kernel
theorem dX8_init_42 : decode cX8_init 42 = .ok (.putfield 24, 3) := by decide +kernel
theorem dX8_init_45 : decode cX8_init 45 = .ok (.aload_n 0, 1) := by decide +kernel
theorem dX8_init_46 : decode cX8_init 46 = .ok (.getfield 7, 3) := by decide +kernel
theorem dX8_init_49 : decode cX8_init 49 = .ok (.iconst 1, 1) := by decide +kernel
theorem dX8_init_50 : decode cX8_init 50 = .ok (.sipush 1200, 3) := by decide +kernel
theorem dX8_init_53 : decode cX8_init 53 = .ok (.iastore, 1) := by decide +kernel
theorem dX8_init_54 : decode cX8_init 54 = .ok (.aload_n 0, 1) := by decide +kernel
theorem dX8_init_55 : decode cX8_init 55 = .ok (.getfield 7, 3) := by decide +kernel
theorem dX8_init_58 : decode cX8_init 58 = .ok (.iconst 2, 1) := by decide +kernel
theorem dX8_init_59 : decode cX8_init 59 = .ok (.sipush 800, 3) := by decide +kernel
theorem dX8_init_62 : decode cX8_init 62 = .ok (.iastore, 1) := by decide +kernel
theorem dX8_init_63 : decode cX8_init 63 = .ok (.aload_n 0, 1) := by decide +kernel
theorem dX8_init_64 : decode cX8_init 64 = .ok (.getfield 7, 3) := by decide +kernel
theorem dX8_init_67 : decode cX8_init 67 = .ok (.iconst 3, 1) := by decide +kernel
theorem dX8_init_68 : decode cX8_init 68 = .ok (.sipush 600, 3) := by decide +kernel
theorem dX8_init_71 : decode cX8_init 71 = .ok (.iastore, 1) := by decide +kernel
theorem dX8_init_72 : decode cX8_init 72 = .ok (.aload_n 0, 1) := by decide +kernel
theorem dX8_init_73 : decode cX8_init 73 = .ok (.getfield 7, 3) := by decide +kernel
theorem dX8_init_76 : decode cX8_init 76 = .ok (.iconst 4, 1) := by decide +kernel
theorem dX8_init_77 : decode cX8_init 77 = .ok (.bipush 25, 2) := by decide +kernel
theorem dX8_init_79 : decode cX8_init 79 = .ok (.iastore, 1) := by decide +kernel
theorem dX8_init_80 : decode cX8_init 80 = .ok (.aload_n 0, 1) := by decide +kernel
theorem dX8_init_81 : decode cX8_init 81 = .ok (.getfield 7, 3) := by decide +kernel
theorem dX8_init_84 : decode cX8_init 84 = .ok (.iconst 5, 1) := by decide +kernel
theorem dX8_init_85 : decode cX8_init 85 = .ok (.iconst 1, 1) := by decide +kernel
theorem dX8_init_86 : decode cX8_init 86 = .ok (.iastore, 1) := by decide +kernel
theorem dX8_init_87 : decode cX8_init 87 = .ok (.aload_n 0, 1) := by decide +kernel
theorem dX8_init_88 : decode cX8_init 88 = .ok (.getfield 7, 3) := by decide +kernel
theorem dX8_init_91 : decode cX8_init 91 = .ok (.bipush 6, 2) := by decide +kernel
theorem dX8_init_93 : decode cX8_init 93 = .ok (.sipush 5000, 3) := by decide +kernel
theorem dX8_init_96 : decode cX8_init 96 = .ok (.iastore, 1) := by decide +kernel
theorem dX8_init_97 : decode cX8_init 97 = .ok (.aload_n 0, 1) := by decide +kernel
theorem dX8_init_98 : decode cX8_init 98 = .ok (.getfield 7, 3) := by decide +kernel
theorem dX8_init_101 : decode cX8_init 101 = .ok (.bipush 7, 2) := by decide +kernel
theorem dX8_init_103 : decode cX8_init 103 = .ok (.sipush 300, 3) := by decide +kernel
theorem dX8_init_106 : decode cX8_init 106 = .ok (.iastore, 1) := by decide +kernel
theorem dX8_init_107 : decode cX8_init 107 = .ok (.aload_n 0, 1) := by decide +kernel
theorem dX8_init_108 : decode cX8_init 108 = .ok (.getfield 7, 3) := by decide +kernel
theorem dX8_init_111 : decode cX8_init 111 = .ok (.bipush 8, 2) := by decide +kernel
theorem dX8_init_113 : decode cX8_init 113 = .ok (.iconst 2, 1) := by decide +kernel
theorem dX8_init_114 : decode cX8_init 114 = .ok (.iastore, 1) := by decide +kernel
theorem dX8_init_115 : decode cX8_init 115 = .ok (.iconst 0, 1) := by decide +kernel
theorem dX8_init_116 : decode cX8_init 116 = .ok (.istore_n 1, 1) := by decide +kernel
theorem dX8_init_117 : decode cX8_init 117 = .ok (.iload_n 1, 1) := by decide +kernel
theorem dX8_init_118 : decode cX8_init 118 = .ok (.bipush 6, 2) := by decide +kernel
theorem dX8_init_120 : decode cX8_init 120 = .ok (.if_icmp .ge 21, 3) := by decide +kernel
theorem dX8_init_123 : decode cX8_init 123 = .ok (.aload_n 0, 1) := by decide +kernel
theorem dX8_init_124 : decode cX8_init 124 = .ok (.getfield 7, 3) := by decide +kernel
theorem dX8_init_127 : decode cX8_init 127 = .ok (.bipush 40, 2) := by decide +kernel
theorem dX8_init_129 : decode cX8_init 129 = .ok (.iconst 2, 1) := by decide +kernel
theorem dX8_init_130 : decode cX8_init 130 = .ok (.iload_n 1, 1) := by decide +kernel
theorem dX8_init_131 : decode cX8_init 131 = .ok (.imul, 1) := by decide +kernel
theorem dX8_init_132 : decode cX8_init 132 = .ok (.iadd, 1) := by decide +kernel
theorem dX8_init_133 : decode cX8_init 133 = .ok (.iconst (-1), 1) := by decide +kernel
theorem dX8_init_134 : decode cX8_init 134 = .ok (.iastore, 1) := by decide +kernel
theorem dX8_init_135 : decode cX8_init 135 = .ok (.iinc 1 1, 3) := by decide +kernel
theorem dX8_init_138 : decode cX8_init 138 = .ok (.goto (-21), 3) := by decide +kernel
theorem dX8_init_141 : decode cX8_init 141 = .ok (.return_, 1) := by decide +kernel
theorem dX8_in_0 : decode cX8_in 0 = .ok (.lload_n 0, 1) := by decide +kernel
theorem dX8_in_1 : decode cX8_in 1 = .ok (.lload_n 2, 1) := by decide +kernel
theorem dX8_in_2 : decode cX8_in 2 = .ok (.lcmp, 1) := by decide +kernel
theorem dX8_in_3 : decode cX8_in 3 = .ok (.ifCond .lt 14, 3) := by decide +kernel
theorem dX8_in_6 : decode cX8_in 6 = .ok (.lload_n 0, 1) := by decide +kernel
theorem dX8_in_7 : decode cX8_in 7 = .ok (.lload 4, 2) := by decide +kernel
theorem dX8_in_9 : decode cX8_in 9 = .ok (.lcmp, 1) := by decide +kernel
theorem dX8_in_10 : decode cX8_in 10 = .ok (.ifCond .gt 7, 3) := by decide +kernel
theorem dX8_in_13 : decode cX8_in 13 = .ok (.iconst 1, 1) := by decide +kernel
theorem dX8_in_14 : decode cX8_in 14 = .ok (.goto 4, 3) := by decide +kernel
theorem dX8_in_17 : decode cX8_in 17 = .ok (.iconst 0, 1) := by decide +kernel
theorem dX8_in_18 : decode cX8_in 18 = .ok (.ireturn, 1) := by decide +kernel
theorem dX8_save_0 : decode cX8_save 0 = .ok (.aload_n 0, 1) := by decide +kernel
theorem dX8_save_1 : decode cX8_save 1 = .ok (.getfield 27, 3) := by decide +kernel
theorem dX8_save_4 : decode cX8_save 4 = .ok (.iconst 4, 1) := by decide +kernel
theorem dX8_save_5 : decode cX8_save 5 = .ok (.if_icmp .ne 44, 3) := by decide +kernel
theorem dX8_save_8 : decode cX8_save 8 = .ok (.iconst 0, 1) := by decide +kernel
theorem dX8_save_9 : decode cX8_save 9 = .ok (.istore_n 1, 1) := by decide +kernel
theorem dX8_save_10 : decode cX8_save 10 = .ok (.iload_n 1, 1) := by decide +kernel
theorem dX8_save_11 : decode cX8_save 11 = .ok (.sipush 2460, 3) := by decide +kernel
theorem dX8_save_14 : decode cX8_save 14 = .ok (.if_icmp .ge 25, 3) := by decide +kernel
theorem dX8_save_17 : decode cX8_save 17 = .ok (.aload_n 0, 1) := by decide +kernel
theorem dX8_save_18 : decode cX8_save 18 = .ok (.getfield 13, 3) := by decide +kernel
theorem dX8_save_21 : decode cX8_save 21 = .ok (.iload_n 1, 1) := by decide +kernel
theorem dX8_save_22 : decode cX8_save 22 = .ok (.aload_n 0, 1) := by decide +kernel
theorem dX8_save_23 : decode cX8_save 23 = .ok (.getfield 13, 3) := by decide +kernel
theorem dX8_save_26 : decode cX8_save 26 = .ok (.iload_n 1, 1) := by decide +kernel
theorem dX8_save_27 : decode cX8_save 27 = .ok (.sipush 820, 3) := by decide +kernel
theorem dX8_save_30 : decode cX8_save 30 = .ok (.iadd, 1) := by decide +kernel
theorem dX8_save_31 : decode cX8_save 31 = .ok (.iaload, 1) := by decide +kernel
theorem dX8_save_32 : decode cX8_save 32 = .ok (.iastore, 1) := by decide +kernel
theorem dX8_save_33 : decode cX8_save 33 = .ok (.iinc 1 1, 3) := by decide +kernel
theorem dX8_save_36 : decode cX8_save 36 = .ok (.goto (-26), 3) := by decide +kernel
theorem dX8_save_39 : decode cX8_save 39 = .ok (.aload_n 0, 1) := by decide +kernel
theorem dX8_save_40 : decode cX8_save 40 = .ok (.dup, 1) := by decide +kernel
theorem dX8_save_41 : decode cX8_save 41 = .ok (.getfield 27, 3) := by decide +kernel
theorem dX8_save_44 : decode cX8_save 44 = .ok (.iconst 1, 1) := by decide +kernel
theorem dX8_save_45 : decode cX8_save 45 = .ok (.isub, 1) := by decide +kernel
theorem dX8_save_46 : decode cX8_save 46 = .ok (.putfield 27, 3) := by decide +kernel
theorem dX8_save_49 : decode cX8_save 49 = .ok (.iconst 0, 1) := by decide +kernel
theorem dX8_save_50 : decode cX8_save 50 = .ok (.istore_n 1, 1) := by decide +kernel
theorem dX8_save_51 : decode cX8_save 51 = .ok (.iload_n 1, 1) := by decide +kernel
theorem dX8_save_52 : decode cX8_save 52 = .ok (.sipush 820, 3) := by decide +kernel
theorem dX8_save_55 : decode cX8_save 55 = .ok (.if_icmp .ge 30, 3) := by decide +kernel
theorem dX8_save_58 : decode cX8_save 58 = .ok (.aload_n 0, 1) := by decide +kernel
theorem dX8_save_59 : decode cX8_save 59 = .ok (.getfield 13, 3) := by decide +kernel
theorem dX8_save_62 : decode cX8_save 62 = .ok (.sipush 820, 3) := by decide +kernel
theorem dX8_save_65 : decode cX8_save 65 = .ok (.aload_n 0, 1) := by decide +kernel
theorem dX8_save_66 : decode cX8_save 66 = .ok (.getfield 27, 3) := by decide +kernel
theorem dX8_save_69 : decode cX8_save 69 = .ok (.imul, 1) := by decide +kernel
theorem dX8_save_70 : decode cX8_save 70 = .ok (.iload_n 1, 1) := by decide +kernel
theorem dX8_save_71 : decode cX8_save 71 = .ok (.iadd, 1) := by decide +kernel
theorem dX8_save_72 : decode cX8_save 72 = .ok (.aload_n 0, 1) := by decide +kernel
theorem dX8_save_73 : decode cX8_save 73 = .ok (.getfield 7, 3) := by decide +kernel
theorem dX8_save_76 : decode cX8_save 76 = .ok (.iload_n 1, 1) := by decide +kernel
theorem dX8_save_77 : decode cX8_save 77 = .ok (.iaload, 1) := by decide +kernel
theorem dX8_save_78 : decode cX8_save 78 = .ok (.iastore, 1) := by decide +kernel
theorem dX8_save_79 : decode cX8_save 79 = .ok (.iinc 1 1, 3) := by decide +kernel
theorem dX8_save_82 : decode cX8_save 82 = .ok (.goto (-31), 3) := by decide +kernel
theorem dX8_save_85 : decode cX8_save 85 = .ok (.aload_n 0, 1) := by decide +kernel
theorem dX8_save_86 : decode cX8_save 86 = .ok (.dup, 1) := by decide +kernel
theorem dX8_save_87 : decode cX8_save 87 = .ok (.getfield 27, 3) := by decide +kernel
theorem dX8_save_90 : decode cX8_save 90 = .ok (.iconst 1, 1) := by decide +kernel
theorem dX8_save_91 : decode cX8_save 91 = .ok (.iadd, 1) := by decide +kernel
theorem dX8_save_92 : decode cX8_save 92 = .ok (.putfield 27, 3) := by decide +kernel
theorem dX8_save_95 : decode cX8_save 95 = .ok (.return_, 1) := by decide +kernel
theorem dX8_laysAside_0 : decode cX8_laysAside 0 = .ok (.iconst 0, 1) := by decide +kernel
theorem dX8_laysAside_1 : decode cX8_laysAside 1 = .ok (.istore_n 1, 1) := by decide +kernel
theorem dX8_laysAside_2 : decode cX8_laysAside 2 = .ok (.iload_n 1, 1) := by decide +kernel
theorem dX8_laysAside_3 : decode cX8_laysAside 3 = .ok (.sipush 820, 3) := by decide +kernel
theorem dX8_laysAside_6 : decode cX8_laysAside 6 = .ok (.if_icmp .ge 21, 3) := by decide +kernel
theorem dX8_laysAside_9 : decode cX8_laysAside 9 = .ok (.aload_n 0, 1) := by decide +kernel
theorem dX8_laysAside_10 : decode cX8_laysAside 10 = .ok (.getfield 16, 3) := by decide +kernel
theorem dX8_laysAside_13 : decode cX8_laysAside 13 = .ok (.iload_n 1, 1) := by decide +kernel
theorem dX8_laysAside_14 : decode cX8_laysAside 14 = .ok (.aload_n 0, 1) := by decide +kernel
theorem dX8_laysAside_15 : decode cX8_laysAside 15 = .ok (.getfield 7, 3) := by decide +kernel
theorem dX8_laysAside_18 : decode cX8_laysAside 18 = .ok (.iload_n 1, 1) := by decide +kernel
theorem dX8_laysAside_19 : decode cX8_laysAside 19 = .ok (.iaload, 1) := by decide +kernel
theorem dX8_laysAside_20 : decode cX8_laysAside 20 = .ok (.iastore, 1) := by decide +kernel
theorem dX8_laysAside_21 : decode cX8_laysAside 21 = .ok (.iinc 1 1, 3) := by decide +kernel
theorem dX8_laysAside_24 : decode cX8_laysAside 24 = .ok (.goto (-22), 3) := by decide +kernel
theorem dX8_laysAside_27 : decode cX8_laysAside 27 = .ok (.return_, 1) := by decide +kernel
theorem dX8_takesBack_0 : decode cX8_takesBack 0 = .ok (.iconst 0, 1) := by decide +kernel
theorem dX8_takesBack_1 : decode cX8_takesBack 1 = .ok (.istore_n 1, 1) := by decide +kernel
theorem dX8_takesBack_2 : decode cX8_takesBack 2 = .ok (.iload_n 1, 1) := by decide +kernel
theorem dX8_takesBack_3 : decode cX8_takesBack 3 = .ok (.sipush 820, 3) := by decide +kernel
theorem dX8_takesBack_6 : decode cX8_takesBack 6 = .ok (.if_icmp .ge 21, 3) := by decide +kernel
theorem dX8_takesBack_9 : decode cX8_takesBack 9 = .ok (.aload_n 0, 1) := by decide +kernel
theorem dX8_takesBack_10 : decode cX8_takesBack 10 = .ok (.getfield 7, 3) := by decide +kernel
theorem dX8_takesBack_13 : decode cX8_takesBack 13 = .ok (.iload_n 1, 1) := by decide +kernel
theorem dX8_takesBack_14 : decode cX8_takesBack 14 = .ok (.aload_n 0, 1) := by decide +kernel
theorem dX8_takesBack_15 : decode cX8_takesBack 15 = .ok (.getfield 16, 3) := by decide +kernel
theorem dX8_takesBack_18 : decode cX8_takesBack 18 = .ok (.iload_n 1, 1) := by decide +kernel
theorem dX8_takesBack_19 : decode cX8_takesBack 19 = .ok (.iaload, 1) := by decide +kernel
theorem dX8_takesBack_20 : decode cX8_takesBack 20 = .ok (.iastore, 1) := by decide +kernel
theorem dX8_takesBack_21 : decode cX8_takesBack 21 = .ok (.iinc 1 1, 3) := by decide +kernel
theorem dX8_takesBack_24 : decode cX8_takesBack 24 = .ok (.goto (-22), 3) := by decide +kernel
theorem dX8_takesBack_27 : decode cX8_takesBack 27 = .ok (.return_, 1) := by decide +kernel
set_option maxRecDepth 20000 in
theorem ggX8_isHirer_X8_in : GoodIn wsX8_isHirer wsX8_in := goodIn_r _ [5] (by decide +kernel) (by decide +kernel)
set_option maxRecDepth 20000 in
theorem gX8_isHirer_X8_in : GoodIn wsX8_isHirer (va_wsS RX8 30 yX8_in wsX8_in) := goodIn_app (goodIn_of _ (by decide +kernel)) ggX8_isHirer_X8_in
theorem dX8_isHirer_0 : decode cX8_isHirer 0 = .ok (.iload_n 1, 1) := by decide +kernel
theorem dX8_isHirer_1 : decode cX8_isHirer 1 = .ok (.i2l, 1) := by decide +kernel
theorem dX8_isHirer_2 : decode cX8_isHirer 2 = .ok (.lconst 0, 1) := by decide +kernel
theorem dX8_isHirer_3 : decode cX8_isHirer 3 = .ok (.aload_n 0, 1) := by decide +kernel
theorem dX8_isHirer_4 : decode cX8_isHirer 4 = .ok (.getfield 7, 3) := by decide +kernel
theorem dX8_isHirer_7 : decode cX8_isHirer 7 = .ok (.bipush 9, 2) := by decide +kernel
theorem dX8_isHirer_9 : decode cX8_isHirer 9 = .ok (.iaload, 1) := by decide +kernel
theorem dX8_isHirer_10 : decode cX8_isHirer 10 = .ok (.i2l, 1) := by decide +kernel
theorem dX8_isHirer_11 : decode cX8_isHirer 11 = .ok (.lconst 1, 1) := by decide +kernel
theorem dX8_isHirer_12 : decode cX8_isHirer 12 = .ok (.lsub, 1) := by decide +kernel
theorem dX8_isHirer_13 : decode cX8_isHirer 13 = .ok (.invokestatic 30, 3) := by decide +kernel
theorem dX8_isHirer_16 : decode cX8_isHirer 16 = .ok (.ireturn, 1) := by decide +kernel
set_option maxRecDepth 20000 in
theorem ggX8_isHire_X8_in : GoodIn wsX8_isHire wsX8_in := goodIn_r _ [5] (by decide +kernel) (by decide +kernel)
set_option maxRecDepth 20000 in
theorem gX8_isHire_X8_in : GoodIn wsX8_isHire (va_wsS RX8 30 yX8_in wsX8_in) := goodIn_app (goodIn_of _ (by decide +kernel)) ggX8_isHire_X8_in
theorem dX8_isHire_0 : decode cX8_isHire 0 = .ok (.iload_n 1, 1) := by decide +kernel
theorem dX8_isHire_1 : decode cX8_isHire 1 = .ok (.i2l, 1) := by decide +kernel
theorem dX8_isHire_2 : decode cX8_isHire 2 = .ok (.lconst 0, 1) := by decide +kernel
theorem dX8_isHire_3 : decode cX8_isHire 3 = .ok (.aload_n 0, 1) := by decide +kernel
theorem dX8_isHire_4 : decode cX8_isHire 4 = .ok (.getfield 7, 3) := by decide +kernel
theorem dX8_isHire_7 : decode cX8_isHire 7 = .ok (.bipush 10, 2) := by decide +kernel
theorem dX8_isHire_9 : decode cX8_isHire 9 = .ok (.iaload, 1) := by decide +kernel
theorem dX8_isHire_10 : decode cX8_isHire 10 = .ok (.i2l, 1) := by decide +kernel
theorem dX8_isHire_11 : decode cX8_isHire 11 = .ok (.lconst 1, 1) := by decide +kernel
theorem dX8_isHire_12 : decode cX8_isHire 12 = .ok (.lsub, 1) := by decide +kernel
theorem dX8_isHire_13 : decode cX8_isHire 13 = .ok (.invokestatic 30, 3) := by decide +kernel
theorem dX8_isHire_16 : decode cX8_isHire 16 = .ok (.ireturn, 1) := by decide +kernel
theorem dX8_at_0 : decode cX8_at 0 = .ok (.bipush 52, 2) := by decide +kernel
theorem dX8_at_2 : decode cX8_at 2 = .ok (.bipush 64, 2) := by decide +kernel
theorem dX8_at_4 : decode cX8_at 4 = .ok (.iload_n 0, 1) := by decide +kernel
theorem dX8_at_5 : decode cX8_at 5 = .ok (.imul, 1) := by decide +kernel
theorem dX8_at_6 : decode cX8_at 6 = .ok (.iadd, 1) := by decide +kernel
theorem dX8_at_7 : decode cX8_at 7 = .ok (.iload_n 1, 1) := by decide +kernel
theorem dX8_at_8 : decode cX8_at 8 = .ok (.iadd, 1) := by decide +kernel
theorem dX8_at_9 : decode cX8_at 9 = .ok (.ireturn, 1) := by decide +kernel
set_option maxRecDepth 20000 in
theorem ggX8_of_X8_at : GoodIn wsX8_of wsX8_at := goodIn_r _ [5] (by decide +kernel) (by decide +kernel)
set_option maxRecDepth 20000 in
theorem gX8_of_X8_at : GoodIn wsX8_of (va_wsS RX8 34 yX8_at wsX8_at) := goodIn_app (goodIn_of _ (by decide +kernel)) ggX8_of_X8_at
theorem dX8_of_0 : decode cX8_of 0 = .ok (.aload_n 0, 1) := by decide +kernel
theorem dX8_of_1 : decode cX8_of 1 = .ok (.getfield 7, 3) := by decide +kernel
theorem dX8_of_4 : decode cX8_of 4 = .ok (.iload_n 1, 1) := by decide +kernel
theorem dX8_of_5 : decode cX8_of 5 = .ok (.iload_n 2, 1) := by decide +kernel
theorem dX8_of_6 : decode cX8_of 6 = .ok (.invokestatic 34, 3) := by decide +kernel
theorem dX8_of_9 : decode cX8_of 9 = .ok (.iaload, 1) := by decide +kernel
theorem dX8_of_10 : decode cX8_of 10 = .ok (.ireturn, 1) := by decide +kernel
set_option maxRecDepth 20000 in
theorem ggX8_isSession_X8_isHire : GoodIn wsX8_isSession wsX8_isHire := goodIn_r _ [5, 6, 7, 8, 4, 9, 17, 18, 19, 20, 21, 22, 23, 24, 25, 26, 27, 28, 29, 30, 31, 32, 33, 34] (by decide +kernel) (by decide +kernel)
set_option maxRecDepth 20000 in
theorem gX8_isSession_X8_isHire : GoodIn wsX8_isSession (wsV RX8 38 RX8 yX8_isHire wsX8_isHire) := goodIn_app (goodIn_of _ (by decide +kernel)) ggX8_isSession_X8_isHire
set_option maxRecDepth 20000 in
theorem ggX8_isSession_X8_of : GoodIn wsX8_isSession wsX8_of := goodIn_r _ [13, 6, 14, 15, 4, 16, 17, 18, 19, 20, 21, 22, 23, 24, 25, 26, 27, 28, 29, 30, 31, 32, 33, 34] (by decide +kernel) (by decide +kernel)
set_option maxRecDepth 20000 in
theorem gX8_isSession_X8_of : GoodIn wsX8_isSession (wsV RX8 42 RX8 yX8_of wsX8_of) := goodIn_app (goodIn_of _ (by decide +kernel)) ggX8_isSession_X8_of
theorem dX8_isSession_0 : decode cX8_isSession 0 = .ok (.iload_n 1, 1) := by decide +kernel
theorem dX8_isSession_1 : decode cX8_isSession 1 = .ok (.ifCond .lt 34, 3) := by decide +kernel
theorem dX8_isSession_4 : decode cX8_isSession 4 = .ok (.aload_n 0, 1) := by decide +kernel
theorem dX8_isSession_5 : decode cX8_isSession 5 = .ok (.iload_n 1, 1) := by decide +kernel
theorem dX8_isSession_6 : decode cX8_isSession 6 = .ok (.bipush 20, 2) := by decide +kernel
theorem dX8_isSession_8 : decode cX8_isSession 8 = .ok (.idiv, 1) := by decide +kernel
theorem dX8_isSession_9 : decode cX8_isSession 9 = .ok (.invokevirtual 38, 3) := by decide +kernel
theorem dX8_isSession_12 : decode cX8_isSession 12 = .ok (.ifCond .eq 23, 3) := by decide +kernel
theorem dX8_isSession_15 : decode cX8_isSession 15 = .ok (.iload_n 1, 1) := by decide +kernel
theorem dX8_isSession_16 : decode cX8_isSession 16 = .ok (.bipush 20, 2) := by decide +kernel
theorem dX8_isSession_18 : decode cX8_isSession 18 = .ok (.irem, 1) := by decide +kernel
theorem dX8_isSession_19 : decode cX8_isSession 19 = .ok (.aload_n 0, 1) := by decide +kernel
theorem dX8_isSession_20 : decode cX8_isSession 20 = .ok (.iload_n 1, 1) := by decide +kernel
theorem dX8_isSession_21 : decode cX8_isSession 21 = .ok (.bipush 20, 2) := by decide +kernel
theorem dX8_isSession_23 : decode cX8_isSession 23 = .ok (.idiv, 1) := by decide +kernel
theorem dX8_isSession_24 : decode cX8_isSession 24 = .ok (.iconst 4, 1) := by decide +kernel
theorem dX8_isSession_25 : decode cX8_isSession 25 = .ok (.invokevirtual 42, 3) := by decide +kernel
theorem dX8_isSession_28 : decode cX8_isSession 28 = .ok (.if_icmp .ge 7, 3) := by decide +kernel
theorem dX8_isSession_31 : decode cX8_isSession 31 = .ok (.iconst 1, 1) := by decide +kernel
theorem dX8_isSession_32 : decode cX8_isSession 32 = .ok (.goto 4, 3) := by decide +kernel
theorem dX8_isSession_35 : decode cX8_isSession 35 = .ok (.iconst 0, 1) := by decide +kernel
theorem dX8_isSession_36 : decode cX8_isSession 36 = .ok (.ireturn, 1) := by decide +kernel
set_option maxRecDepth 20000 in
theorem ggX8_stateOf_X8_of : GoodIn wsX8_stateOf wsX8_of := goodIn_r _ [5, 6, 7, 8, 4, 9, 10, 11, 12, 13, 14, 15, 16, 17, 18, 19, 20, 21, 22, 23, 24, 25, 26, 27] (by decide +kernel) (by decide +kernel)
set_option maxRecDepth 20000 in
theorem gX8_stateOf_X8_of : GoodIn wsX8_stateOf (wsV RX8 42 RX8 yX8_of wsX8_of) := goodIn_app (goodIn_of _ (by decide +kernel)) ggX8_stateOf_X8_of
theorem dX8_stateOf_0 : decode cX8_stateOf 0 = .ok (.aload_n 0, 1) := by decide +kernel
theorem dX8_stateOf_1 : decode cX8_stateOf 1 = .ok (.iload_n 1, 1) := by decide +kernel
theorem dX8_stateOf_2 : decode cX8_stateOf 2 = .ok (.bipush 20, 2) := by decide +kernel
theorem dX8_stateOf_4 : decode cX8_stateOf 4 = .ok (.idiv, 1) := by decide +kernel
theorem dX8_stateOf_5 : decode cX8_stateOf 5 = .ok (.bipush 12, 2) := by decide +kernel
theorem dX8_stateOf_7 : decode cX8_stateOf 7 = .ok (.iload_n 1, 1) := by decide +kernel
theorem dX8_stateOf_8 : decode cX8_stateOf 8 = .ok (.bipush 20, 2) := by decide +kernel
theorem dX8_stateOf_10 : decode cX8_stateOf 10 = .ok (.irem, 1) := by decide +kernel
theorem dX8_stateOf_11 : decode cX8_stateOf 11 = .ok (.iadd, 1) := by decide +kernel
theorem dX8_stateOf_12 : decode cX8_stateOf 12 = .ok (.invokevirtual 42, 3) := by decide +kernel
theorem dX8_stateOf_15 : decode cX8_stateOf 15 = .ok (.ireturn, 1) := by decide +kernel
set_option maxRecDepth 20000 in
theorem ggX8_dayOf_X8_of : GoodIn wsX8_dayOf wsX8_of := goodIn_r _ [5, 6, 7, 8, 4, 9, 10, 11, 12, 13, 14, 15, 16, 17, 18, 19, 20, 21, 22, 23, 24, 25, 26, 27] (by decide +kernel) (by decide +kernel)
set_option maxRecDepth 20000 in
theorem gX8_dayOf_X8_of : GoodIn wsX8_dayOf (wsV RX8 42 RX8 yX8_of wsX8_of) := goodIn_app (goodIn_of _ (by decide +kernel)) ggX8_dayOf_X8_of
theorem dX8_dayOf_0 : decode cX8_dayOf 0 = .ok (.iload_n 1, 1) := by decide +kernel
theorem dX8_dayOf_1 : decode cX8_dayOf 1 = .ok (.bipush 20, 2) := by decide +kernel
theorem dX8_dayOf_3 : decode cX8_dayOf 3 = .ok (.idiv, 1) := by decide +kernel
theorem dX8_dayOf_4 : decode cX8_dayOf 4 = .ok (.istore_n 2, 1) := by decide +kernel
theorem dX8_dayOf_5 : decode cX8_dayOf 5 = .ok (.aload_n 0, 1) := by decide +kernel
theorem dX8_dayOf_6 : decode cX8_dayOf 6 = .ok (.iload_n 2, 1) := by decide +kernel
theorem dX8_dayOf_7 : decode cX8_dayOf 7 = .ok (.iconst 5, 1) := by decide +kernel
theorem dX8_dayOf_8 : decode cX8_dayOf 8 = .ok (.invokevirtual 42, 3) := by decide +kernel
theorem dX8_dayOf_11 : decode cX8_dayOf 11 = .ok (.iload_n 1, 1) := by decide +kernel
theorem dX8_dayOf_12 : decode cX8_dayOf 12 = .ok (.bipush 20, 2) := by decide +kernel
theorem dX8_dayOf_14 : decode cX8_dayOf 14 = .ok (.irem, 1) := by decide +kernel
theorem dX8_dayOf_15 : decode cX8_dayOf 15 = .ok (.aload_n 0, 1) := by decide +kernel
theorem dX8_dayOf_16 : decode cX8_dayOf 16 = .ok (.iload_n 2, 1) := by decide +kernel
theorem dX8_dayOf_17 : decode cX8_dayOf 17 = .ok (.bipush 6, 2) := by decide +kernel
theorem dX8_dayOf_19 : decode cX8_dayOf 19 = .ok (.invokevirtual 42, 3) := by decide +kernel
theorem dX8_dayOf_22 : decode cX8_dayOf 22 = .ok (.imul, 1) := by decide +kernel
theorem dX8_dayOf_23 : decode cX8_dayOf 23 = .ok (.iadd, 1) := by decide +kernel
theorem dX8_dayOf_24 : decode cX8_dayOf 24 = .ok (.ireturn, 1) := by decide +kernel
theorem dX8_charges_0 : decode cX8_charges 0 = .ok (.aload_n 0, 1) := by decide +kernel
theorem dX8_charges_1 : decode cX8_charges 1 = .ok (.getfield 7, 3) := by decide +kernel
theorem dX8_charges_4 : decode cX8_charges 4 = .ok (.bipush 20, 2) := by decide +kernel
theorem dX8_charges_6 : decode cX8_charges 6 = .ok (.iconst 2, 1) := by decide +kernel
theorem dX8_charges_7 : decode cX8_charges 7 = .ok (.iload_n 1, 1) := by decide +kernel
theorem dX8_charges_8 : decode cX8_charges 8 = .ok (.imul, 1) := by decide +kernel
theorem dX8_charges_9 : decode cX8_charges 9 = .ok (.iadd, 1) := by decide +kernel
theorem dX8_charges_10 : decode cX8_charges 10 = .ok (.dup2, 1) := by decide +kernel
theorem dX8_charges_11 : decode cX8_charges 11 = .ok (.iaload, 1) := by decide +kernel
theorem dX8_charges_12 : decode cX8_charges 12 = .ok (.iload_n 2, 1) := by decide +kernel
theorem dX8_charges_13 : decode cX8_charges 13 = .ok (.iadd, 1) := by decide +kernel
theorem dX8_charges_14 : decode cX8_charges 14 = .ok (.iastore, 1) := by decide +kernel
theorem dX8_charges_15 : decode cX8_charges 15 = .ok (.return_, 1) := by decide +kernel
theorem dX8_pays_0 : decode cX8_pays 0 = .ok (.aload_n 0, 1) := by decide +kernel
theorem dX8_pays_1 : decode cX8_pays 1 = .ok (.getfield 7, 3) := by decide +kernel
theorem dX8_pays_4 : decode cX8_pays 4 = .ok (.bipush 20, 2) := by decide +kernel
theorem dX8_pays_6 : decode cX8_pays 6 = .ok (.iconst 2, 1) := by decide +kernel
theorem dX8_pays_7 : decode cX8_pays 7 = .ok (.iload_n 1, 1) := by decide +kernel
theorem dX8_pays_8 : decode cX8_pays 8 = .ok (.imul, 1) := by decide +kernel
theorem dX8_pays_9 : decode cX8_pays 9 = .ok (.iadd, 1) := by decide +kernel
theorem dX8_pays_10 : decode cX8_pays 10 = .ok (.iconst 1, 1) := by decide +kernel
theorem dX8_pays_11 : decode cX8_pays 11 = .ok (.iadd, 1) := by decide +kernel
theorem dX8_pays_12 : decode cX8_pays 12 = .ok (.dup2, 1) := by decide +kernel
theorem dX8_pays_13 : decode cX8_pays 13 = .ok (.iaload, 1) := by decide +kernel
theorem dX8_pays_14 : decode cX8_pays 14 = .ok (.iload_n 2, 1) := by decide +kernel
theorem dX8_pays_15 : decode cX8_pays 15 = .ok (.iadd, 1) := by decide +kernel
theorem dX8_pays_16 : decode cX8_pays 16 = .ok (.iastore, 1) := by decide +kernel
theorem dX8_pays_17 : decode cX8_pays 17 = .ok (.return_, 1) := by decide +kernel
set_option maxRecDepth 20000 in
theorem ggX8_addHirer_X8_save : GoodIn wsX8_addHirer wsX8_save := goodIn_r _ [7, 8, 9, 1, 10, 11, 12, 13, 14, 15, 16, 17, 18, 19, 20, 21, 22, 23, 24, 25, 26, 27] (by decide +kernel) (by decide +kernel)
set_option maxRecDepth 20000 in
theorem gX8_addHirer_X8_save : GoodIn wsX8_addHirer (wsV RX8 46 RX8 yX8_save wsX8_save) := goodIn_app (goodIn_of _ (by decide +kernel)) ggX8_addHirer_X8_save
theorem dX8_addHirer_0 : decode cX8_addHirer 0 = .ok (.aload_n 0, 1) := by decide +kernel
theorem dX8_addHirer_1 : decode cX8_addHirer 1 = .ok (.getfield 7, 3) := by decide +kernel
theorem dX8_addHirer_4 : decode cX8_addHirer 4 = .ok (.bipush 9, 2) := by decide +kernel
theorem dX8_addHirer_6 : decode cX8_addHirer 6 = .ok (.iaload, 1) := by decide +kernel
theorem dX8_addHirer_7 : decode cX8_addHirer 7 = .ok (.bipush 10, 2) := by decide +kernel
theorem dX8_addHirer_9 : decode cX8_addHirer 9 = .ok (.if_icmp .ne 6, 3) := by decide +kernel
theorem dX8_addHirer_12 : decode cX8_addHirer 12 = .ok (.ldc 45, 2) := by decide +kernel
theorem dX8_addHirer_14 : decode cX8_addHirer 14 = .ok (.ireturn, 1) := by decide +kernel
theorem dX8_addHirer_15 : decode cX8_addHirer 15 = .ok (.aload_n 0, 1) := by decide +kernel
theorem dX8_addHirer_16 : decode cX8_addHirer 16 = .ok (.invokevirtual 46, 3) := by decide +kernel
theorem dX8_addHirer_19 : decode cX8_addHirer 19 = .ok (.aload_n 0, 1) := by decide +kernel
theorem dX8_addHirer_20 : decode cX8_addHirer 20 = .ok (.getfield 7, 3) := by decide +kernel
theorem dX8_addHirer_23 : decode cX8_addHirer 23 = .ok (.bipush 9, 2) := by decide +kernel
theorem dX8_addHirer_25 : decode cX8_addHirer 25 = .ok (.dup2, 1) := by decide +kernel
theorem dX8_addHirer_26 : decode cX8_addHirer 26 = .ok (.iaload, 1) := by decide +kernel
theorem dX8_addHirer_27 : decode cX8_addHirer 27 = .ok (.iconst 1, 1) := by decide +kernel
theorem dX8_addHirer_28 : decode cX8_addHirer 28 = .ok (.iadd, 1) := by decide +kernel
theorem dX8_addHirer_29 : decode cX8_addHirer 29 = .ok (.iastore, 1) := by decide +kernel
theorem dX8_addHirer_30 : decode cX8_addHirer 30 = .ok (.aload_n 0, 1) := by decide +kernel
theorem dX8_addHirer_31 : decode cX8_addHirer 31 = .ok (.getfield 7, 3) := by decide +kernel
theorem dX8_addHirer_34 : decode cX8_addHirer 34 = .ok (.bipush 9, 2) := by decide +kernel
theorem dX8_addHirer_36 : decode cX8_addHirer 36 = .ok (.iaload, 1) := by decide +kernel
theorem dX8_addHirer_37 : decode cX8_addHirer 37 = .ok (.iconst 1, 1) := by decide +kernel
theorem dX8_addHirer_38 : decode cX8_addHirer 38 = .ok (.isub, 1) := by decide +kernel
theorem dX8_addHirer_39 : decode cX8_addHirer 39 = .ok (.ireturn, 1) := by decide +kernel
set_option maxRecDepth 20000 in
theorem ggX8_countHires_X8_of : GoodIn wsX8_countHires wsX8_of := goodIn_r _ [6, 1, 7, 8, 5, 9, 18, 19, 20, 21, 22, 23, 24, 25, 26, 27, 28, 29, 30, 31, 32, 33, 34, 35] (by decide +kernel) (by decide +kernel)
set_option maxRecDepth 20000 in
theorem gX8_countHires_X8_of : GoodIn wsX8_countHires (wsV RX8 42 RX8 yX8_of wsX8_of) := goodIn_app (goodIn_of _ (by decide +kernel)) ggX8_countHires_X8_of
set_option maxRecDepth 20000 in
theorem ggX8_countHires_X8_manyOf : GoodIn wsX8_countHires wsX8_manyOf := goodIn_r _ [13, 2, 3, 4, 5, 6, 1, 7, 8, 9, 18, 19, 20, 21, 22, 23, 24, 25, 26, 27, 28, 29, 30, 31, 32, 33, 34, 35] (by decide +kernel) (by decide +kernel)
set_option maxRecDepth 20000 in
theorem gX8_countHires_X8_manyOf : GoodIn wsX8_countHires (wsV RX8 49 RX8 yX8_manyOf wsX8_manyOf) := goodIn_app (goodIn_of _ (by decide +kernel)) ggX8_countHires_X8_manyOf
set_option maxRecDepth 20000 in
theorem ggX8_countHires_X8_keysOf : GoodIn wsX8_countHires wsX8_keysOf := goodIn_r _ [17, 1, 18, 19, 20, 21, 22, 23, 24, 25, 26, 27, 28, 29, 30, 31, 32, 33, 34, 35] (by decide +kernel) (by decide +kernel)
set_option maxRecDepth 20000 in
theorem gX8_countHires_X8_keysOf : GoodIn wsX8_countHires (wsV RX8 52 RX8 yX8_keysOf wsX8_keysOf) := goodIn_app (goodIn_of _ (by decide +kernel)) ggX8_countHires_X8_keysOf
theorem dX8_countHires_0 : decode cX8_countHires 0 = .ok (.iconst 0, 1) := by decide +kernel
theorem dX8_countHires_1 : decode cX8_countHires 1 = .ok (.istore_n 3, 1) := by decide +kernel
theorem dX8_countHires_2 : decode cX8_countHires 2 = .ok (.iconst 0, 1) := by decide +kernel
theorem dX8_countHires_3 : decode cX8_countHires 3 = .ok (.istore 4, 2) := by decide +kernel
theorem dX8_countHires_5 : decode cX8_countHires 5 = .ok (.iload 4, 2) := by decide +kernel
theorem dX8_countHires_7 : decode cX8_countHires 7 = .ok (.aload_n 0, 1) := by decide +kernel
theorem dX8_countHires_8 : decode cX8_countHires 8 = .ok (.getfield 7, 3) := by decide +kernel
theorem dX8_countHires_11 : decode cX8_countHires 11 = .ok (.bipush 10, 2) := by decide +kernel
theorem dX8_countHires_13 : decode cX8_countHires 13 = .ok (.iaload, 1) := by decide +kernel
theorem dX8_countHires_14 : decode cX8_countHires 14 = .ok (.if_icmp .ge 85, 3) := by decide +kernel
theorem dX8_countHires_17 : decode cX8_countHires 17 = .ok (.aload_n 0, 1) := by decide +kernel
theorem dX8_countHires_18 : decode cX8_countHires 18 = .ok (.iload 4, 2) := by decide +kernel
theorem dX8_countHires_20 : decode cX8_countHires 20 = .ok (.iconst 0, 1) := by decide +kernel
theorem dX8_countHires_21 : decode cX8_countHires 21 = .ok (.invokevirtual 42, 3) := by decide +kernel
theorem dX8_countHires_24 : decode cX8_countHires 24 = .ok (.iload_n 1, 1) := by decide +kernel
theorem dX8_countHires_25 : decode cX8_countHires 25 = .ok (.if_icmp .ne 7, 3) := by decide +kernel
theorem dX8_countHires_28 : decode cX8_countHires 28 = .ok (.iconst 1, 1) := by decide +kernel
theorem dX8_countHires_29 : decode cX8_countHires 29 = .ok (.goto 4, 3) := by decide +kernel
theorem dX8_countHires_32 : decode cX8_countHires 32 = .ok (.iconst 0, 1) := by decide +kernel
theorem dX8_countHires_33 : decode cX8_countHires 33 = .ok (.istore 5, 2) := by decide +kernel
theorem dX8_countHires_35 : decode cX8_countHires 35 = .ok (.iload_n 3, 1) := by decide +kernel
theorem dX8_countHires_36 : decode cX8_countHires 36 = .ok (.iload 5, 2) := by decide +kernel
theorem dX8_countHires_38 : decode cX8_countHires 38 = .ok (.ifCond .ne 7, 3) := by decide +kernel
theorem dX8_countHires_41 : decode cX8_countHires 41 = .ok (.iconst 0, 1) := by decide +kernel
theorem dX8_countHires_42 : decode cX8_countHires 42 = .ok (.goto 49, 3) := by decide +kernel
theorem dX8_countHires_45 : decode cX8_countHires 45 = .ok (.iload_n 2, 1) := by decide +kernel
theorem dX8_countHires_46 : decode cX8_countHires 46 = .ok (.iconst 3, 1) := by decide +kernel
theorem dX8_countHires_47 : decode cX8_countHires 47 = .ok (.if_icmp .ne 7, 3) := by decide +kernel
theorem dX8_countHires_50 : decode cX8_countHires 50 = .ok (.iconst 1, 1) := by decide +kernel
theorem dX8_countHires_51 : decode cX8_countHires 51 = .ok (.goto 40, 3) := by decide +kernel
theorem dX8_countHires_54 : decode cX8_countHires 54 = .ok (.iload_n 2, 1) := by decide +kernel
theorem dX8_countHires_55 : decode cX8_countHires 55 = .ok (.iconst 4, 1) := by decide +kernel
theorem dX8_countHires_56 : decode cX8_countHires 56 = .ok (.if_icmp .ne 13, 3) := by decide +kernel
theorem dX8_countHires_59 : decode cX8_countHires 59 = .ok (.aload_n 0, 1) := by decide +kernel
theorem dX8_countHires_60 : decode cX8_countHires 60 = .ok (.iload 4, 2) := by decide +kernel
theorem dX8_countHires_62 : decode cX8_countHires 62 = .ok (.iconst 0, 1) := by decide +kernel
theorem dX8_countHires_63 : decode cX8_countHires 63 = .ok (.invokevirtual 49, 3) := by decide +kernel
theorem dX8_countHires_66 : decode cX8_countHires 66 = .ok (.goto 25, 3) := by decide +kernel
theorem dX8_countHires_69 : decode cX8_countHires 69 = .ok (.iload_n 2, 1) := by decide +kernel
theorem dX8_countHires_70 : decode cX8_countHires 70 = .ok (.iconst 5, 1) := by decide +kernel
theorem dX8_countHires_71 : decode cX8_countHires 71 = .ok (.if_icmp .ne 12, 3) := by decide +kernel
theorem dX8_countHires_74 : decode cX8_countHires 74 = .ok (.aload_n 0, 1) := by decide +kernel
theorem dX8_countHires_75 : decode cX8_countHires 75 = .ok (.iload 4, 2) := by decide +kernel
theorem dX8_countHires_77 : decode cX8_countHires 77 = .ok (.invokevirtual 52, 3) := by decide +kernel
theorem dX8_countHires_80 : decode cX8_countHires 80 = .ok (.goto 11, 3) := by decide +kernel
theorem dX8_countHires_83 : decode cX8_countHires 83 = .ok (.aload_n 0, 1) := by decide +kernel
theorem dX8_countHires_84 : decode cX8_countHires 84 = .ok (.iload 4, 2) := by decide +kernel
theorem dX8_countHires_86 : decode cX8_countHires 86 = .ok (.bipush 11, 2) := by decide +kernel
theorem dX8_countHires_88 : decode cX8_countHires 88 = .ok (.invokevirtual 42, 3) := by decide +kernel
theorem dX8_countHires_91 : decode cX8_countHires 91 = .ok (.iadd, 1) := by decide +kernel
theorem dX8_countHires_92 : decode cX8_countHires 92 = .ok (.istore_n 3, 1) := by decide +kernel
theorem dX8_countHires_93 : decode cX8_countHires 93 = .ok (.iinc 4 1, 3) := by decide +kernel
theorem dX8_countHires_96 : decode cX8_countHires 96 = .ok (.goto (-91), 3) := by decide +kernel
theorem dX8_countHires_99 : decode cX8_countHires 99 = .ok (.iload_n 3, 1) := by decide +kernel
theorem dX8_countHires_100 : decode cX8_countHires 100 = .ok (.ireturn, 1) := by decide +kernel
set_option maxRecDepth 20000 in
theorem ggX8_hirer_X8_isHirer : GoodIn wsX8_hirer wsX8_isHirer := goodIn_r _ [8, 3, 9, 10, 7, 11, 31, 32, 33, 34, 35, 36, 37, 38, 39, 40, 41, 42, 43, 44, 45, 46, 47, 48] (by decide +kernel) (by decide +kernel)
set_option maxRecDepth 20000 in
theorem gX8_hirer_X8_isHirer : GoodIn wsX8_hirer (wsV RX8 56 RX8 yX8_isHirer wsX8_isHirer) := goodIn_app (goodIn_of _ (by decide +kernel)) ggX8_hirer_X8_isHirer
set_option maxRecDepth 20000 in
theorem ggX8_hirer_X8_in : GoodIn wsX8_hirer wsX8_in := goodIn_r _ [11] (by decide +kernel) (by decide +kernel)
set_option maxRecDepth 20000 in
theorem gX8_hirer_X8_in : GoodIn wsX8_hirer (va_wsS RX8 30 yX8_in wsX8_in) := goodIn_app (goodIn_of _ (by decide +kernel)) ggX8_hirer_X8_in
set_option maxRecDepth 20000 in
theorem ggX8_hirer_X8_countHires : GoodIn wsX8_hirer wsX8_countHires := goodIn_r _ [15, 3, 16, 17, 18, 7, 19, 20, 21, 22, 23, 24, 25, 26, 27, 28, 29, 30, 31, 32, 33, 34, 35, 36, 37, 38, 39, 40, 41, 42, 43, 44, 45, 46, 47, 48] (by decide +kernel) (by decide +kernel)
set_option maxRecDepth 20000 in
theorem gX8_hirer_X8_countHires : GoodIn wsX8_hirer (wsV RX8 62 RX8 yX8_countHires wsX8_countHires) := goodIn_app (goodIn_of _ (by decide +kernel)) ggX8_hirer_X8_countHires
theorem dX8_hirer_0 : decode cX8_hirer 0 = .ok (.aload_n 0, 1) := by decide +kernel
theorem dX8_hirer_1 : decode cX8_hirer 1 = .ok (.iload_n 1, 1) := by decide +kernel
theorem dX8_hirer_2 : decode cX8_hirer 2 = .ok (.invokevirtual 56, 3) := by decide +kernel
theorem dX8_hirer_5 : decode cX8_hirer 5 = .ok (.ifCond .eq 15, 3) := by decide +kernel
theorem dX8_hirer_8 : decode cX8_hirer 8 = .ok (.iload_n 2, 1) := by decide +kernel
theorem dX8_hirer_9 : decode cX8_hirer 9 = .ok (.i2l, 1) := by decide +kernel
theorem dX8_hirer_10 : decode cX8_hirer 10 = .ok (.lconst 0, 1) := by decide +kernel
theorem dX8_hirer_11 : decode cX8_hirer 11 = .ok (.ldc2_w 59, 3) := by decide +kernel
theorem dX8_hirer_14 : decode cX8_hirer 14 = .ok (.invokestatic 30, 3) := by decide +kernel
theorem dX8_hirer_17 : decode cX8_hirer 17 = .ok (.ifCond .ne 6, 3) := by decide +kernel
theorem dX8_hirer_20 : decode cX8_hirer 20 = .ok (.ldc 61, 2) := by decide +kernel
theorem dX8_hirer_22 : decode cX8_hirer 22 = .ok (.ireturn, 1) := by decide +kernel
theorem dX8_hirer_23 : decode cX8_hirer 23 = .ok (.aload_n 0, 1) := by decide +kernel
theorem dX8_hirer_24 : decode cX8_hirer 24 = .ok (.getfield 7, 3) := by decide +kernel
theorem dX8_hirer_27 : decode cX8_hirer 27 = .ok (.bipush 20, 2) := by decide +kernel
theorem dX8_hirer_29 : decode cX8_hirer 29 = .ok (.iconst 2, 1) := by decide +kernel
theorem dX8_hirer_30 : decode cX8_hirer 30 = .ok (.iload_n 1, 1) := by decide +kernel
theorem dX8_hirer_31 : decode cX8_hirer 31 = .ok (.imul, 1) := by decide +kernel
theorem dX8_hirer_32 : decode cX8_hirer 32 = .ok (.iadd, 1) := by decide +kernel
theorem dX8_hirer_33 : decode cX8_hirer 33 = .ok (.iaload, 1) := by decide +kernel
theorem dX8_hirer_34 : decode cX8_hirer 34 = .ok (.istore_n 3, 1) := by decide +kernel
theorem dX8_hirer_35 : decode cX8_hirer 35 = .ok (.aload_n 0, 1) := by decide +kernel
theorem dX8_hirer_36 : decode cX8_hirer 36 = .ok (.getfield 7, 3) := by decide +kernel
theorem dX8_hirer_39 : decode cX8_hirer 39 = .ok (.bipush 20, 2) := by decide +kernel
theorem dX8_hirer_41 : decode cX8_hirer 41 = .ok (.iconst 2, 1) := by decide +kernel
theorem dX8_hirer_42 : decode cX8_hirer 42 = .ok (.iload_n 1, 1) := by decide +kernel
theorem dX8_hirer_43 : decode cX8_hirer 43 = .ok (.imul, 1) := by decide +kernel
theorem dX8_hirer_44 : decode cX8_hirer 44 = .ok (.iadd, 1) := by decide +kernel
theorem dX8_hirer_45 : decode cX8_hirer 45 = .ok (.iconst 1, 1) := by decide +kernel
theorem dX8_hirer_46 : decode cX8_hirer 46 = .ok (.iadd, 1) := by decide +kernel
theorem dX8_hirer_47 : decode cX8_hirer 47 = .ok (.iaload, 1) := by decide +kernel
theorem dX8_hirer_48 : decode cX8_hirer 48 = .ok (.istore 4, 2) := by decide +kernel
theorem dX8_hirer_50 : decode cX8_hirer 50 = .ok (.iload_n 2, 1) := by decide +kernel
theorem dX8_hirer_51 : decode cX8_hirer 51 = .ok (.ifCond .ne 7, 3) := by decide +kernel
theorem dX8_hirer_54 : decode cX8_hirer 54 = .ok (.iload_n 3, 1) := by decide +kernel
theorem dX8_hirer_55 : decode cX8_hirer 55 = .ok (.goto 31, 3) := by decide +kernel
theorem dX8_hirer_58 : decode cX8_hirer 58 = .ok (.iload_n 2, 1) := by decide +kernel
theorem dX8_hirer_59 : decode cX8_hirer 59 = .ok (.iconst 1, 1) := by decide +kernel
theorem dX8_hirer_60 : decode cX8_hirer 60 = .ok (.if_icmp .ne 8, 3) := by decide +kernel
theorem dX8_hirer_63 : decode cX8_hirer 63 = .ok (.iload 4, 2) := by decide +kernel
theorem dX8_hirer_65 : decode cX8_hirer 65 = .ok (.goto 21, 3) := by decide +kernel
theorem dX8_hirer_68 : decode cX8_hirer 68 = .ok (.iload_n 2, 1) := by decide +kernel
theorem dX8_hirer_69 : decode cX8_hirer 69 = .ok (.iconst 2, 1) := by decide +kernel
theorem dX8_hirer_70 : decode cX8_hirer 70 = .ok (.if_icmp .ne 10, 3) := by decide +kernel
theorem dX8_hirer_73 : decode cX8_hirer 73 = .ok (.iload_n 3, 1) := by decide +kernel
theorem dX8_hirer_74 : decode cX8_hirer 74 = .ok (.iload 4, 2) := by decide +kernel
theorem dX8_hirer_76 : decode cX8_hirer 76 = .ok (.isub, 1) := by decide +kernel
theorem dX8_hirer_77 : decode cX8_hirer 77 = .ok (.goto 9, 3) := by decide +kernel
theorem dX8_hirer_80 : decode cX8_hirer 80 = .ok (.aload_n 0, 1) := by decide +kernel
theorem dX8_hirer_81 : decode cX8_hirer 81 = .ok (.iload_n 1, 1) := by decide +kernel
theorem dX8_hirer_82 : decode cX8_hirer 82 = .ok (.iload_n 2, 1) := by decide +kernel
theorem dX8_hirer_83 : decode cX8_hirer 83 = .ok (.invokevirtual 62, 3) := by decide +kernel
theorem dX8_hirer_86 : decode cX8_hirer 86 = .ok (.ireturn, 1) := by decide +kernel
set_option maxRecDepth 20000 in
theorem ggX8_pay_X8_isHirer : GoodIn wsX8_pay wsX8_isHirer := goodIn_r _ [10, 3, 11, 12, 9, 13, 24, 25, 26, 27, 28, 29, 30, 31, 32, 33, 34, 35, 36, 37, 38, 39, 40, 41] (by decide +kernel) (by decide +kernel)
set_option maxRecDepth 20000 in
theorem gX8_pay_X8_isHirer : GoodIn wsX8_pay (wsV RX8 56 RX8 yX8_isHirer wsX8_isHirer) := goodIn_app (goodIn_of _ (by decide +kernel)) ggX8_pay_X8_isHirer
set_option maxRecDepth 20000 in
theorem ggX8_pay_X8_in : GoodIn wsX8_pay wsX8_in := goodIn_r _ [13] (by decide +kernel) (by decide +kernel)
set_option maxRecDepth 20000 in
theorem gX8_pay_X8_in : GoodIn wsX8_pay (va_wsS RX8 30 yX8_in wsX8_in) := goodIn_app (goodIn_of _ (by decide +kernel)) ggX8_pay_X8_in
set_option maxRecDepth 20000 in
theorem ggX8_pay_X8_save : GoodIn wsX8_pay wsX8_save := goodIn_r _ [17, 18, 19, 3, 24, 25, 26, 27, 28, 29, 30, 31, 32, 33, 34, 35, 36, 37, 38, 39, 40, 41] (by decide +kernel) (by decide +kernel)
set_option maxRecDepth 20000 in
theorem gX8_pay_X8_save : GoodIn wsX8_pay (wsV RX8 46 RX8 yX8_save wsX8_save) := goodIn_app (goodIn_of _ (by decide +kernel)) ggX8_pay_X8_save
set_option maxRecDepth 20000 in
theorem ggX8_pay_X8_pays : GoodIn wsX8_pay wsX8_pays := goodIn_r _ [23, 3, 24, 25, 26, 27, 28, 29, 30, 31, 32, 33, 34, 35, 36, 37, 38, 39, 40, 41] (by decide +kernel) (by decide +kernel)
set_option maxRecDepth 20000 in
theorem gX8_pay_X8_pays : GoodIn wsX8_pay (wsV RX8 68 RX8 yX8_pays wsX8_pays) := goodIn_app (goodIn_of _ (by decide +kernel)) ggX8_pay_X8_pays
theorem dX8_pay_0 : decode cX8_pay 0 = .ok (.aload_n 0, 1) := by decide +kernel
theorem dX8_pay_1 : decode cX8_pay 1 = .ok (.iload_n 1, 1) := by decide +kernel
theorem dX8_pay_2 : decode cX8_pay 2 = .ok (.invokevirtual 56, 3) := by decide +kernel
theorem dX8_pay_5 : decode cX8_pay 5 = .ok (.ifCond .eq 15, 3) := by decide +kernel
theorem dX8_pay_8 : decode cX8_pay 8 = .ok (.iload_n 2, 1) := by decide +kernel
theorem dX8_pay_9 : decode cX8_pay 9 = .ok (.i2l, 1) := by decide +kernel
theorem dX8_pay_10 : decode cX8_pay 10 = .ok (.lconst 1, 1) := by decide +kernel
theorem dX8_pay_11 : decode cX8_pay 11 = .ok (.ldc2_w 65, 3) := by decide +kernel
theorem dX8_pay_14 : decode cX8_pay 14 = .ok (.invokestatic 30, 3) := by decide +kernel
theorem dX8_pay_17 : decode cX8_pay 17 = .ok (.ifCond .ne 6, 3) := by decide +kernel
theorem dX8_pay_20 : decode cX8_pay 20 = .ok (.ldc 61, 2) := by decide +kernel
theorem dX8_pay_22 : decode cX8_pay 22 = .ok (.ireturn, 1) := by decide +kernel
theorem dX8_pay_23 : decode cX8_pay 23 = .ok (.aload_n 0, 1) := by decide +kernel
theorem dX8_pay_24 : decode cX8_pay 24 = .ok (.getfield 7, 3) := by decide +kernel
theorem dX8_pay_27 : decode cX8_pay 27 = .ok (.bipush 20, 2) := by decide +kernel
theorem dX8_pay_29 : decode cX8_pay 29 = .ok (.iconst 2, 1) := by decide +kernel
