set_option maxRecDepth 20000 in
theorem ggX7_pay_X2_save : GoodIn wsX7_pay wsX2_save := goodIn_r _ [19, 20, 21, 22, 23, 24, 18, 25, 26, 27, 28, 12, 29, 30, 14, 31, 32, 33, 34, 35, 36, 37, 38, 39, 40, 41, 42, 43, 44, 45, 46, 47, 48, 49, 50, 51, 52, 53, 54, 55, 56, 57, 58, 59, 60, 61, 62, 63, 64, 65, 66, 67, 68, 89, 90, 80, 81, 82, 83, 84, 85, 86, 87, 88, 91, 92, 93, 94, 95, 96, 97, 98, 99, 100, 101, 102, 103, 104, 105, 106, 107, 108] (by decide +kernel) (by decide +kernel)
set_option maxRecDepth 20000 in
theorem gX7_pay_X2_save : GoodIn wsX7_pay (wsV RX7 52 RX2 yX2_save wsX2_save) := goodIn_app (goodIn_of _ (by decide +kernel)) ggX7_pay_X2_save
set_option maxRecDepth 20000 in
theorem ggX7_pay_X0_credit : GoodIn wsX7_pay wsX0_credit := goodIn_r _ [72, 39, 37, 73, 10, 11, 12, 13, 14, 80, 81, 82, 83, 84, 85, 86, 87, 88] (by decide +kernel) (by decide +kernel)
set_option maxRecDepth 20000 in
theorem gX7_pay_X0_credit : GoodIn wsX7_pay (wsV RX7 83 RX0 yX0_credit wsX0_credit) := goodIn_app (goodIn_of _ (by decide +kernel)) ggX7_pay_X0_credit
theorem dX7_pay_0 : decode cX7_pay 0 = .ok (.aload_n 0, 1) := by decide +kernel
theorem dX7_pay_1 : decode cX7_pay 1 = .ok (.getfield 10, 3) := by decide +kernel
theorem dX7_pay_4 : decode cX7_pay 4 = .ok (.iload_n 1, 1) := by decide +kernel
theorem dX7_pay_5 : decode cX7_pay 5 = .ok (.invokevirtual 56, 3) := by decide +kernel
theorem dX7_pay_8 : decode cX7_pay 8 = .ok (.ifCond .eq 14, 3) := by decide +kernel
theorem dX7_pay_11 : decode cX7_pay 11 = .ok (.iload_n 2, 1) := by decide +kernel
theorem dX7_pay_12 : decode cX7_pay 12 = .ok (.iconst 1, 1) := by decide +kernel
theorem dX7_pay_13 : decode cX7_pay 13 = .ok (.if_icmp .lt 9, 3) := by decide +kernel
theorem dX7_pay_16 : decode cX7_pay 16 = .ok (.iload_n 2, 1) := by decide +kernel
theorem dX7_pay_17 : decode cX7_pay 17 = .ok (.ldc 81, 2) := by decide +kernel
theorem dX7_pay_19 : decode cX7_pay 19 = .ok (.if_icmp .le 6, 3) := by decide +kernel
theorem dX7_pay_22 : decode cX7_pay 22 = .ok (.ldc 60, 2) := by decide +kernel
theorem dX7_pay_24 : decode cX7_pay 24 = .ok (.ireturn, 1) := by decide +kernel
theorem dX7_pay_25 : decode cX7_pay 25 = .ok (.aload_n 0, 1) := by decide +kernel
theorem dX7_pay_26 : decode cX7_pay 26 = .ok (.getfield 10, 3) := by decide +kernel
theorem dX7_pay_29 : decode cX7_pay 29 = .ok (.getfield 65, 3) := by decide +kernel
theorem dX7_pay_32 : decode cX7_pay 32 = .ok (.iload_n 1, 1) := by decide +kernel
theorem dX7_pay_33 : decode cX7_pay 33 = .ok (.iaload, 1) := by decide +kernel
theorem dX7_pay_34 : decode cX7_pay 34 = .ok (.iload_n 2, 1) := by decide +kernel
theorem dX7_pay_35 : decode cX7_pay 35 = .ok (.iadd, 1) := by decide +kernel
theorem dX7_pay_36 : decode cX7_pay 36 = .ok (.ldc 82, 2) := by decide +kernel
theorem dX7_pay_38 : decode cX7_pay 38 = .ok (.if_icmp .le 6, 3) := by decide +kernel
theorem dX7_pay_41 : decode cX7_pay 41 = .ok (.ldc 51, 2) := by decide +kernel
theorem dX7_pay_43 : decode cX7_pay 43 = .ok (.ireturn, 1) := by decide +kernel
theorem dX7_pay_44 : decode cX7_pay 44 = .ok (.aload_n 0, 1) := by decide +kernel
theorem dX7_pay_45 : decode cX7_pay 45 = .ok (.getfield 19, 3) := by decide +kernel
theorem dX7_pay_48 : decode cX7_pay 48 = .ok (.aload_n 0, 1) := by decide +kernel
theorem dX7_pay_49 : decode cX7_pay 49 = .ok (.getfield 10, 3) := by decide +kernel
theorem dX7_pay_52 : decode cX7_pay 52 = .ok (.invokevirtual 52, 3) := by decide +kernel
theorem dX7_pay_55 : decode cX7_pay 55 = .ok (.aload_n 0, 1) := by decide +kernel
theorem dX7_pay_56 : decode cX7_pay 56 = .ok (.getfield 10, 3) := by decide +kernel
theorem dX7_pay_59 : decode cX7_pay 59 = .ok (.iload_n 1, 1) := by decide +kernel
theorem dX7_pay_60 : decode cX7_pay 60 = .ok (.iload_n 2, 1) := by decide +kernel
theorem dX7_pay_61 : decode cX7_pay 61 = .ok (.bipush 8, 2) := by decide +kernel
theorem dX7_pay_63 : decode cX7_pay 63 = .ok (.invokevirtual 83, 3) := by decide +kernel
theorem dX7_pay_66 : decode cX7_pay 66 = .ok (.aload_n 0, 1) := by decide +kernel
theorem dX7_pay_67 : decode cX7_pay 67 = .ok (.getfield 10, 3) := by decide +kernel
theorem dX7_pay_70 : decode cX7_pay 70 = .ok (.getfield 61, 3) := by decide +kernel
theorem dX7_pay_73 : decode cX7_pay 73 = .ok (.iload_n 1, 1) := by decide +kernel
theorem dX7_pay_74 : decode cX7_pay 74 = .ok (.iaload, 1) := by decide +kernel
theorem dX7_pay_75 : decode cX7_pay 75 = .ok (.aload_n 0, 1) := by decide +kernel
theorem dX7_pay_76 : decode cX7_pay 76 = .ok (.getfield 10, 3) := by decide +kernel
theorem dX7_pay_79 : decode cX7_pay 79 = .ok (.getfield 65, 3) := by decide +kernel
theorem dX7_pay_82 : decode cX7_pay 82 = .ok (.iload_n 1, 1) := by decide +kernel
theorem dX7_pay_83 : decode cX7_pay 83 = .ok (.iaload, 1) := by decide +kernel
theorem dX7_pay_84 : decode cX7_pay 84 = .ok (.isub, 1) := by decide +kernel
theorem dX7_pay_85 : decode cX7_pay 85 = .ok (.ireturn, 1) := by decide +kernel
set_option maxRecDepth 20000 in
theorem ggX7_set_X2_save : GoodIn wsX7_set wsX2_save := goodIn_r _ [10, 11, 12, 13, 14, 15, 9, 16, 17, 18, 19, 20, 21, 22, 23, 24, 25, 26, 27, 28, 29, 30, 31, 32, 33, 34, 35, 36, 37, 38, 39, 40, 41, 42, 43, 44, 45, 46, 47, 48, 49, 50, 51, 52, 53, 54, 55, 56, 57, 58, 59, 60, 61, 77, 78, 68, 69, 70, 71, 72, 73, 74, 75, 76, 79, 80, 81, 82, 83, 84, 85, 86, 87, 88, 89, 90, 91, 92, 93, 94, 95, 96] (by decide +kernel) (by decide +kernel)
set_option maxRecDepth 20000 in
theorem gX7_set_X2_save : GoodIn wsX7_set (wsV RX7 52 RX2 yX2_save wsX2_save) := goodIn_app (goodIn_of _ (by decide +kernel)) ggX7_set_X2_save
theorem dX7_set_0 : decode cX7_set 0 = .ok (.iload_n 1, 1) := by decide +kernel
theorem dX7_set_1 : decode cX7_set 1 = .ok (.ifCond .lt 22, 3) := by decide +kernel
theorem dX7_set_4 : decode cX7_set 4 = .ok (.iload_n 1, 1) := by decide +kernel
theorem dX7_set_5 : decode cX7_set 5 = .ok (.bipush 8, 2) := by decide +kernel
theorem dX7_set_7 : decode cX7_set 7 = .ok (.if_icmp .ge 16, 3) := by decide +kernel
theorem dX7_set_10 : decode cX7_set 10 = .ok (.iload_n 2, 1) := by decide +kernel
theorem dX7_set_11 : decode cX7_set 11 = .ok (.ifCond .lt 12, 3) := by decide +kernel
theorem dX7_set_14 : decode cX7_set 14 = .ok (.iload_n 2, 1) := by decide +kernel
theorem dX7_set_15 : decode cX7_set 15 = .ok (.getstatic 87, 3) := by decide +kernel
theorem dX7_set_18 : decode cX7_set 18 = .ok (.iload_n 1, 1) := by decide +kernel
theorem dX7_set_19 : decode cX7_set 19 = .ok (.iaload, 1) := by decide +kernel
theorem dX7_set_20 : decode cX7_set 20 = .ok (.if_icmp .le 6, 3) := by decide +kernel
theorem dX7_set_23 : decode cX7_set 23 = .ok (.ldc 60, 2) := by decide +kernel
theorem dX7_set_25 : decode cX7_set 25 = .ok (.ireturn, 1) := by decide +kernel
theorem dX7_set_26 : decode cX7_set 26 = .ok (.aload_n 0, 1) := by decide +kernel
theorem dX7_set_27 : decode cX7_set 27 = .ok (.getfield 19, 3) := by decide +kernel
theorem dX7_set_30 : decode cX7_set 30 = .ok (.aload_n 0, 1) := by decide +kernel
theorem dX7_set_31 : decode cX7_set 31 = .ok (.getfield 10, 3) := by decide +kernel
theorem dX7_set_34 : decode cX7_set 34 = .ok (.invokevirtual 52, 3) := by decide +kernel
theorem dX7_set_37 : decode cX7_set 37 = .ok (.aload_n 0, 1) := by decide +kernel
theorem dX7_set_38 : decode cX7_set 38 = .ok (.getfield 10, 3) := by decide +kernel
theorem dX7_set_41 : decode cX7_set 41 = .ok (.getfield 90, 3) := by decide +kernel
theorem dX7_set_44 : decode cX7_set 44 = .ok (.iload_n 1, 1) := by decide +kernel
theorem dX7_set_45 : decode cX7_set 45 = .ok (.iaload, 1) := by decide +kernel
theorem dX7_set_46 : decode cX7_set 46 = .ok (.istore_n 3, 1) := by decide +kernel
theorem dX7_set_47 : decode cX7_set 47 = .ok (.aload_n 0, 1) := by decide +kernel
theorem dX7_set_48 : decode cX7_set 48 = .ok (.getfield 10, 3) := by decide +kernel
theorem dX7_set_51 : decode cX7_set 51 = .ok (.getfield 90, 3) := by decide +kernel
theorem dX7_set_54 : decode cX7_set 54 = .ok (.iload_n 1, 1) := by decide +kernel
theorem dX7_set_55 : decode cX7_set 55 = .ok (.iload_n 2, 1) := by decide +kernel
theorem dX7_set_56 : decode cX7_set 56 = .ok (.iastore, 1) := by decide +kernel
theorem dX7_set_57 : decode cX7_set 57 = .ok (.iload_n 3, 1) := by decide +kernel
theorem dX7_set_58 : decode cX7_set 58 = .ok (.ireturn, 1) := by decide +kernel
set_option maxRecDepth 20000 in
theorem ggX7_hire_X6_takeHours : GoodIn wsX7_hire wsX6_takeHours := goodIn_r _ [15, 16, 17, 184, 185, 186, 187, 188, 189, 190] (by decide +kernel) (by decide +kernel)
set_option maxRecDepth 20000 in
theorem gX7_hire_X6_takeHours : GoodIn wsX7_hire (wsV RX7 99 RX6 yX6_takeHours wsX6_takeHours) := goodIn_app (goodIn_of _ (by decide +kernel)) ggX7_hire_X6_takeHours
set_option maxRecDepth 20000 in
theorem ggX7_hire_X6_takeSeries : GoodIn wsX7_hire wsX6_takeSeries := goodIn_r _ [21, 22, 23, 24, 184, 185, 186, 187, 188, 189, 190] (by decide +kernel) (by decide +kernel)
set_option maxRecDepth 20000 in
theorem gX7_hire_X6_takeSeries : GoodIn wsX7_hire (wsV RX7 103 RX6 yX6_takeSeries wsX6_takeSeries) := goodIn_app (goodIn_of _ (by decide +kernel)) ggX7_hire_X6_takeSeries
set_option maxRecDepth 20000 in
theorem ggX7_hire_X0_isHirer : GoodIn wsX7_hire wsX0_isHirer := goodIn_r _ [29, 30, 191, 192, 193, 194, 195, 196, 197, 198, 199] (by decide +kernel) (by decide +kernel)
set_option maxRecDepth 20000 in
theorem gX7_hire_X0_isHirer : GoodIn wsX7_hire (wsV RX7 56 RX0 yX0_isHirer wsX0_isHirer) := goodIn_app (goodIn_of _ (by decide +kernel)) ggX7_hire_X0_isHirer
set_option maxRecDepth 20000 in
theorem ggX7_hire_X7_areRooms : GoodIn wsX7_hire wsX7_areRooms := goodIn_r _ [34] (by decide +kernel) (by decide +kernel)
set_option maxRecDepth 20000 in
theorem gX7_hire_X7_areRooms : GoodIn wsX7_hire (va_wsS RX7 106 yX7_areRooms wsX7_areRooms) := goodIn_app (goodIn_of _ (by decide +kernel)) ggX7_hire_X7_areRooms
set_option maxRecDepth 20000 in
theorem ggX7_hire_X6_isInRange : GoodIn wsX7_hire wsX6_isInRange := goodIn_r _ [38, 22, 16, 17, 23, 24, 184, 185, 186, 187, 188, 189, 190] (by decide +kernel) (by decide +kernel)
set_option maxRecDepth 20000 in
theorem gX7_hire_X6_isInRange : GoodIn wsX7_hire (wsV RX7 112 RX6 yX6_isInRange wsX6_isInRange) := goodIn_app (goodIn_of _ (by decide +kernel)) ggX7_hire_X6_isInRange
set_option maxRecDepth 20000 in
theorem ggX7_hire_X6_lastDay : GoodIn wsX7_hire wsX6_lastDay := goodIn_r _ [42, 22, 23, 24, 184, 185, 186, 187, 188, 189, 190] (by decide +kernel) (by decide +kernel)
set_option maxRecDepth 20000 in
theorem gX7_hire_X6_lastDay : GoodIn wsX7_hire (wsV RX7 115 RX6 yX6_lastDay wsX6_lastDay) := goodIn_app (goodIn_of _ (by decide +kernel)) ggX7_hire_X6_lastDay
set_option maxRecDepth 20000 in
theorem ggX7_hire_X0_clashOf : GoodIn wsX7_hire wsX0_clashOf := goodIn_r _ [46, 47, 48, 49, 50, 51, 52, 28, 53, 54, 55, 56, 57, 58, 59, 60, 61, 62, 63, 64, 65, 66, 67, 68, 69, 70, 71, 72, 73, 74, 75, 76, 77, 78, 79, 80, 81, 82, 83, 84, 85, 86, 87, 88, 89, 90, 91, 92, 184, 185, 186, 187, 188, 189, 190, 191, 192, 193, 194, 195, 196, 197, 198, 199, 200, 201, 202, 203, 204, 205, 206, 207, 208, 209, 210, 211, 212, 213, 214] (by decide +kernel) (by decide +kernel)
set_option maxRecDepth 20000 in
theorem gX7_hire_X0_clashOf : GoodIn wsX7_hire (wsV RX7 120 RX0 yX0_clashOf wsX0_clashOf) := goodIn_app (goodIn_of _ (by decide +kernel)) ggX7_hire_X0_clashOf
set_option maxRecDepth 20000 in
theorem ggX7_hire_X0_isFull : GoodIn wsX7_hire wsX0_isFull := goodIn_r _ [96, 97, 191, 192, 193, 194, 195, 196, 197, 198, 199] (by decide +kernel) (by decide +kernel)
set_option maxRecDepth 20000 in
theorem gX7_hire_X0_isFull : GoodIn wsX7_hire (wsV RX7 124 RX0 yX0_isFull wsX0_isFull) := goodIn_app (goodIn_of _ (by decide +kernel)) ggX7_hire_X0_isFull
set_option maxRecDepth 20000 in
theorem ggX7_hire_X2_save : GoodIn wsX7_hire wsX2_save := goodIn_r _ [102, 103, 104, 105, 106, 107, 101, 108, 109, 110, 111, 28, 112, 113, 30, 97, 74, 114, 115, 116, 117, 118, 119, 120, 54, 121, 122, 123, 124, 58, 125, 126, 127, 85, 128, 66, 64, 65, 129, 130, 67, 131, 132, 133, 134, 135, 136, 137, 138, 139, 140, 141, 142, 215, 216, 191, 192, 193, 194, 195, 196, 197, 198, 199, 200, 201, 202, 203, 204, 205, 206, 207, 208, 209, 210, 211, 212, 213, 214, 217, 218, 219] (by decide +kernel) (by decide +kernel)
set_option maxRecDepth 20000 in
theorem gX7_hire_X2_save : GoodIn wsX7_hire (wsV RX7 52 RX2 yX2_save wsX2_save) := goodIn_app (goodIn_of _ (by decide +kernel)) ggX7_hire_X2_save
set_option maxRecDepth 20000 in
theorem ggX7_hire_X0_make : GoodIn wsX7_hire wsX0_make := goodIn_r _ [146, 97, 54, 147, 74, 73, 118, 148, 149, 150, 28, 151, 47, 152, 153, 154, 155, 80, 77, 156, 157, 158, 159, 76, 160, 33, 161, 162, 163, 164, 58, 165, 166, 126, 167, 127, 168, 85, 169, 128, 170, 66, 171, 64, 172, 65, 129, 131, 173, 174, 175, 176, 119, 177, 26, 27, 29, 30, 191, 192, 193, 194, 195, 196, 197, 198, 199, 184, 185, 186, 187, 188, 189, 190, 200, 201, 202, 203, 204, 205, 206, 207, 208, 209, 210, 211, 212, 213, 214] (by decide +kernel) (by decide +kernel)
set_option maxRecDepth 20000 in
theorem gX7_hire_X0_make : GoodIn wsX7_hire (wsV RX7 128 RX0 yX0_make wsX0_make) := goodIn_app (goodIn_of _ (by decide +kernel)) ggX7_hire_X0_make
theorem dX7_hire_0 : decode cX7_hire 0 = .ok (.aload_n 0, 1) := by decide +kernel
theorem dX7_hire_1 : decode cX7_hire 1 = .ok (.getfield 40, 3) := by decide +kernel
theorem dX7_hire_4 : decode cX7_hire 4 = .ok (.iload_n 1, 1) := by decide +kernel
theorem dX7_hire_5 : decode cX7_hire 5 = .ok (.putfield 93, 3) := by decide +kernel
theorem dX7_hire_8 : decode cX7_hire 8 = .ok (.aload_n 0, 1) := by decide +kernel
theorem dX7_hire_9 : decode cX7_hire 9 = .ok (.getfield 40, 3) := by decide +kernel
theorem dX7_hire_12 : decode cX7_hire 12 = .ok (.iload_n 2, 1) := by decide +kernel
theorem dX7_hire_13 : decode cX7_hire 13 = .ok (.putfield 96, 3) := by decide +kernel
theorem dX7_hire_16 : decode cX7_hire 16 = .ok (.aload_n 0, 1) := by decide +kernel
theorem dX7_hire_17 : decode cX7_hire 17 = .ok (.getfield 40, 3) := by decide +kernel
theorem dX7_hire_20 : decode cX7_hire 20 = .ok (.iload 4, 2) := by decide +kernel
theorem dX7_hire_22 : decode cX7_hire 22 = .ok (.invokevirtual 99, 3) := by decide +kernel
theorem dX7_hire_25 : decode cX7_hire 25 = .ok (.aload_n 0, 1) := by decide +kernel
theorem dX7_hire_26 : decode cX7_hire 26 = .ok (.getfield 40, 3) := by decide +kernel
theorem dX7_hire_29 : decode cX7_hire 29 = .ok (.iload_n 3, 1) := by decide +kernel
theorem dX7_hire_30 : decode cX7_hire 30 = .ok (.iload 5, 2) := by decide +kernel
theorem dX7_hire_32 : decode cX7_hire 32 = .ok (.iload 6, 2) := by decide +kernel
theorem dX7_hire_34 : decode cX7_hire 34 = .ok (.invokevirtual 103, 3) := by decide +kernel
theorem dX7_hire_37 : decode cX7_hire 37 = .ok (.aload_n 0, 1) := by decide +kernel
theorem dX7_hire_38 : decode cX7_hire 38 = .ok (.getfield 10, 3) := by decide +kernel
theorem dX7_hire_41 : decode cX7_hire 41 = .ok (.iload_n 1, 1) := by decide +kernel
theorem dX7_hire_42 : decode cX7_hire 42 = .ok (.invokevirtual 56, 3) := by decide +kernel
theorem dX7_hire_45 : decode cX7_hire 45 = .ok (.ifCond .eq 27, 3) := by decide +kernel
theorem dX7_hire_48 : decode cX7_hire 48 = .ok (.iload_n 2, 1) := by decide +kernel
theorem dX7_hire_49 : decode cX7_hire 49 = .ok (.invokestatic 106, 3) := by decide +kernel
theorem dX7_hire_52 : decode cX7_hire 52 = .ok (.ifCond .eq 20, 3) := by decide +kernel
theorem dX7_hire_55 : decode cX7_hire 55 = .ok (.aload_n 0, 1) := by decide +kernel
theorem dX7_hire_56 : decode cX7_hire 56 = .ok (.getfield 40, 3) := by decide +kernel
theorem dX7_hire_59 : decode cX7_hire 59 = .ok (.aload_n 0, 1) := by decide +kernel
theorem dX7_hire_60 : decode cX7_hire 60 = .ok (.getfield 10, 3) := by decide +kernel
theorem dX7_hire_63 : decode cX7_hire 63 = .ok (.getfield 109, 3) := by decide +kernel
theorem dX7_hire_66 : decode cX7_hire 66 = .ok (.invokevirtual 112, 3) := by decide +kernel
theorem dX7_hire_69 : decode cX7_hire 69 = .ok (.ifCond .ne 6, 3) := by decide +kernel
theorem dX7_hire_72 : decode cX7_hire 72 = .ok (.ldc 60, 2) := by decide +kernel
theorem dX7_hire_74 : decode cX7_hire 74 = .ok (.ireturn, 1) := by decide +kernel
theorem dX7_hire_75 : decode cX7_hire 75 = .ok (.aload_n 0, 1) := by decide +kernel
theorem dX7_hire_76 : decode cX7_hire 76 = .ok (.getfield 40, 3) := by decide +kernel
theorem dX7_hire_79 : decode cX7_hire 79 = .ok (.invokevirtual 115, 3) := by decide +kernel
theorem dX7_hire_82 : decode cX7_hire 82 = .ok (.sipush 364, 3) := by decide +kernel
theorem dX7_hire_85 : decode cX7_hire 85 = .ok (.if_icmp .le 6, 3) := by decide +kernel
theorem dX7_hire_88 : decode cX7_hire 88 = .ok (.ldc 119, 2) := by decide +kernel
theorem dX7_hire_90 : decode cX7_hire 90 = .ok (.ireturn, 1) := by decide +kernel
theorem dX7_hire_91 : decode cX7_hire 91 = .ok (.aload_n 0, 1) := by decide +kernel
theorem dX7_hire_92 : decode cX7_hire 92 = .ok (.getfield 10, 3) := by decide +kernel
theorem dX7_hire_95 : decode cX7_hire 95 = .ok (.aload_n 0, 1) := by decide +kernel
theorem dX7_hire_96 : decode cX7_hire 96 = .ok (.getfield 40, 3) := by decide +kernel
theorem dX7_hire_99 : decode cX7_hire 99 = .ok (.invokevirtual 120, 3) := by decide +kernel
theorem dX7_hire_102 : decode cX7_hire 102 = .ok (.istore 7, 2) := by decide +kernel
theorem dX7_hire_104 : decode cX7_hire 104 = .ok (.iload 7, 2) := by decide +kernel
theorem dX7_hire_106 : decode cX7_hire 106 = .ok (.iconst (-1), 1) := by decide +kernel
theorem dX7_hire_107 : decode cX7_hire 107 = .ok (.if_icmp .eq 12, 3) := by decide +kernel
theorem dX7_hire_110 : decode cX7_hire 110 = .ok (.aload_n 0, 1) := by decide +kernel
theorem dX7_hire_111 : decode cX7_hire 111 = .ok (.iload 7, 2) := by decide +kernel
theorem dX7_hire_113 : decode cX7_hire 113 = .ok (.putfield 44, 3) := by decide +kernel
theorem dX7_hire_116 : decode cX7_hire 116 = .ok (.ldc 119, 2) := by decide +kernel
theorem dX7_hire_118 : decode cX7_hire 118 = .ok (.ireturn, 1) := by decide +kernel
theorem dX7_hire_119 : decode cX7_hire 119 = .ok (.aload_n 0, 1) := by decide +kernel
theorem dX7_hire_120 : decode cX7_hire 120 = .ok (.getfield 10, 3) := by decide +kernel
theorem dX7_hire_123 : decode cX7_hire 123 = .ok (.invokevirtual 124, 3) := by decide +kernel
theorem dX7_hire_126 : decode cX7_hire 126 = .ok (.ifCond .eq 6, 3) := by decide +kernel
theorem dX7_hire_129 : decode cX7_hire 129 = .ok (.ldc 51, 2) := by decide +kernel
theorem dX7_hire_131 : decode cX7_hire 131 = .ok (.ireturn, 1) := by decide +kernel
theorem dX7_hire_132 : decode cX7_hire 132 = .ok (.aload_n 0, 1) := by decide +kernel
theorem dX7_hire_133 : decode cX7_hire 133 = .ok (.getfield 19, 3) := by decide +kernel
theorem dX7_hire_136 : decode cX7_hire 136 = .ok (.aload_n 0, 1) := by decide +kernel
theorem dX7_hire_137 : decode cX7_hire 137 = .ok (.getfield 10, 3) := by decide +kernel
theorem dX7_hire_140 : decode cX7_hire 140 = .ok (.invokevirtual 52, 3) := by decide +kernel
theorem dX7_hire_143 : decode cX7_hire 143 = .ok (.aload_n 0, 1) := by decide +kernel
theorem dX7_hire_144 : decode cX7_hire 144 = .ok (.getfield 10, 3) := by decide +kernel
theorem dX7_hire_147 : decode cX7_hire 147 = .ok (.aload_n 0, 1) := by decide +kernel
theorem dX7_hire_148 : decode cX7_hire 148 = .ok (.getfield 40, 3) := by decide +kernel
theorem dX7_hire_151 : decode cX7_hire 151 = .ok (.invokevirtual 128, 3) := by decide +kernel
theorem dX7_hire_154 : decode cX7_hire 154 = .ok (.ireturn, 1) := by decide +kernel
theorem dX7_clash_0 : decode cX7_clash 0 = .ok (.aload_n 0, 1) := by decide +kernel
theorem dX7_clash_1 : decode cX7_clash 1 = .ok (.getfield 44, 3) := by decide +kernel
theorem dX7_clash_4 : decode cX7_clash 4 = .ok (.iconst (-1), 1) := by decide +kernel
theorem dX7_clash_5 : decode cX7_clash 5 = .ok (.if_icmp .ne 8, 3) := by decide +kernel
theorem dX7_clash_8 : decode cX7_clash 8 = .ok (.ldc 131, 2) := by decide +kernel
theorem dX7_clash_10 : decode cX7_clash 10 = .ok (.goto 7, 3) := by decide +kernel
theorem dX7_clash_13 : decode cX7_clash 13 = .ok (.aload_n 0, 1) := by decide +kernel
theorem dX7_clash_14 : decode cX7_clash 14 = .ok (.getfield 44, 3) := by decide +kernel
theorem dX7_clash_17 : decode cX7_clash 17 = .ok (.ireturn, 1) := by decide +kernel
set_option maxRecDepth 20000 in
theorem ggX7_hireInfo_X0_hireAt : GoodIn wsX7_hireInfo wsX0_hireAt := goodIn_r _ [7, 8, 9, 55, 56, 57, 58, 59, 60, 61, 62, 63] (by decide +kernel) (by decide +kernel)
set_option maxRecDepth 20000 in
theorem gX7_hireInfo_X0_hireAt : GoodIn wsX7_hireInfo (wsV RX7 132 RX0 yX0_hireAt wsX0_hireAt) := goodIn_app (goodIn_of _ (by decide +kernel)) ggX7_hireInfo_X0_hireAt
set_option maxRecDepth 20000 in
theorem ggX7_hireInfo_X0_keysFor : GoodIn wsX7_hireInfo wsX0_keysFor := goodIn_r _ [13, 14, 15, 55, 56, 57, 58, 59, 60, 61, 62, 63, 64, 65, 66] (by decide +kernel) (by decide +kernel)
set_option maxRecDepth 20000 in
theorem gX7_hireInfo_X0_keysFor : GoodIn wsX7_hireInfo (wsV RX7 136 RX0 yX0_keysFor wsX0_keysFor) := goodIn_app (goodIn_of _ (by decide +kernel)) ggX7_hireInfo_X0_keysFor
set_option maxRecDepth 20000 in
theorem ggX7_hireInfo_X1_property : GoodIn wsX7_hireInfo wsX1_property := goodIn_r _ [20, 21, 22, 23, 24, 25, 26, 27, 28, 29, 30, 31, 32, 33, 34, 35, 36, 37, 38, 39, 40, 19, 41, 42, 43, 44, 45, 46, 47, 48, 67, 68, 69, 70, 71, 72, 73, 74, 75, 76, 77, 78, 79, 80, 81] (by decide +kernel) (by decide +kernel)
set_option maxRecDepth 20000 in
theorem gX7_hireInfo_X1_property : GoodIn wsX7_hireInfo (wsV RX7 139 RX1 yX1_property wsX1_property) := goodIn_app (goodIn_of _ (by decide +kernel)) ggX7_hireInfo_X1_property
theorem dX7_hireInfo_0 : decode cX7_hireInfo 0 = .ok (.aload_n 0, 1) := by decide +kernel
theorem dX7_hireInfo_1 : decode cX7_hireInfo 1 = .ok (.getfield 10, 3) := by decide +kernel
theorem dX7_hireInfo_4 : decode cX7_hireInfo 4 = .ok (.iload_n 1, 1) := by decide +kernel
theorem dX7_hireInfo_5 : decode cX7_hireInfo 5 = .ok (.invokevirtual 132, 3) := by decide +kernel
theorem dX7_hireInfo_8 : decode cX7_hireInfo 8 = .ok (.astore_n 3, 1) := by decide +kernel
theorem dX7_hireInfo_9 : decode cX7_hireInfo 9 = .ok (.aload_n 3, 1) := by decide +kernel
theorem dX7_hireInfo_10 : decode cX7_hireInfo 10 = .ok (.ifnonnull 6, 3) := by decide +kernel
theorem dX7_hireInfo_13 : decode cX7_hireInfo 13 = .ok (.ldc 60, 2) := by decide +kernel
theorem dX7_hireInfo_15 : decode cX7_hireInfo 15 = .ok (.ireturn, 1) := by decide +kernel
theorem dX7_hireInfo_16 : decode cX7_hireInfo 16 = .ok (.iload_n 2, 1) := by decide +kernel
theorem dX7_hireInfo_17 : decode cX7_hireInfo 17 = .ok (.bipush 14, 2) := by decide +kernel
theorem dX7_hireInfo_19 : decode cX7_hireInfo 19 = .ok (.if_icmp .ne 14, 3) := by decide +kernel
theorem dX7_hireInfo_22 : decode cX7_hireInfo 22 = .ok (.aload_n 0, 1) := by decide +kernel
theorem dX7_hireInfo_23 : decode cX7_hireInfo 23 = .ok (.getfield 10, 3) := by decide +kernel
theorem dX7_hireInfo_26 : decode cX7_hireInfo 26 = .ok (.iload_n 1, 1) := by decide +kernel
theorem dX7_hireInfo_27 : decode cX7_hireInfo 27 = .ok (.invokevirtual 136, 3) := by decide +kernel
theorem dX7_hireInfo_30 : decode cX7_hireInfo 30 = .ok (.goto 8, 3) := by decide +kernel
theorem dX7_hireInfo_33 : decode cX7_hireInfo 33 = .ok (.aload_n 3, 1) := by decide +kernel
theorem dX7_hireInfo_34 : decode cX7_hireInfo 34 = .ok (.iload_n 2, 1) := by decide +kernel
theorem dX7_hireInfo_35 : decode cX7_hireInfo 35 = .ok (.invokevirtual 139, 3) := by decide +kernel
theorem dX7_hireInfo_38 : decode cX7_hireInfo 38 = .ok (.ireturn, 1) := by decide +kernel
set_option maxRecDepth 20000 in
theorem ggX7_session_X0_hireOfSession : GoodIn wsX7_session wsX0_hireOfSession := goodIn_r _ [9, 10, 11, 12, 13, 8, 14, 15, 16, 57, 58, 59, 60, 61, 62, 63, 64, 65, 66, 67, 68, 69, 70, 71, 48, 49, 50, 51, 52, 53, 54, 55, 56] (by decide +kernel) (by decide +kernel)
set_option maxRecDepth 20000 in
theorem gX7_session_X0_hireOfSession : GoodIn wsX7_session (wsV RX7 144 RX0 yX0_hireOfSession wsX0_hireOfSession) := goodIn_app (goodIn_of _ (by decide +kernel)) ggX7_session_X0_hireOfSession
set_option maxRecDepth 20000 in
theorem ggX7_session_X1_dayOf : GoodIn wsX7_session wsX1_dayOf := goodIn_r _ [21, 22, 23, 57, 58, 59, 60, 61, 62, 63, 64, 65, 66, 67, 68, 69, 70, 71] (by decide +kernel) (by decide +kernel)
set_option maxRecDepth 20000 in
theorem gX7_session_X1_dayOf : GoodIn wsX7_session (wsV RX7 147 RX1 yX1_dayOf wsX1_dayOf) := goodIn_app (goodIn_of _ (by decide +kernel)) ggX7_session_X1_dayOf
set_option maxRecDepth 20000 in
theorem ggX7_session_X1_stateOf : GoodIn wsX7_session wsX1_stateOf := goodIn_r _ [27, 28, 29, 57, 58, 59, 60, 61, 62, 63, 64, 65, 66, 67, 68, 69, 70, 71] (by decide +kernel) (by decide +kernel)
set_option maxRecDepth 20000 in
theorem gX7_session_X1_stateOf : GoodIn wsX7_session (wsV RX7 150 RX1 yX1_stateOf wsX1_stateOf) := goodIn_app (goodIn_of _ (by decide +kernel)) ggX7_session_X1_stateOf
set_option maxRecDepth 20000 in
theorem ggX7_session_X1_shareOf : GoodIn wsX7_session wsX1_shareOf := goodIn_r _ [33, 34, 35, 57, 58, 59, 60, 61, 62, 63, 64, 65, 66, 67, 68, 69, 70, 71] (by decide +kernel) (by decide +kernel)
set_option maxRecDepth 20000 in
theorem gX7_session_X1_shareOf : GoodIn wsX7_session (wsV RX7 153 RX1 yX1_shareOf wsX1_shareOf) := goodIn_app (goodIn_of _ (by decide +kernel)) ggX7_session_X1_shareOf
set_option maxRecDepth 20000 in
theorem ggX7_session_X1_refundOf : GoodIn wsX7_session wsX1_refundOf := goodIn_r _ [39, 40, 18, 19, 20, 21, 22, 23, 41, 31, 32, 33, 34, 35, 57, 58, 59, 60, 61, 62, 63, 64, 65, 66, 67, 68, 69, 70, 71] (by decide +kernel) (by decide +kernel)
set_option maxRecDepth 20000 in
theorem gX7_session_X1_refundOf : GoodIn wsX7_session (wsV RX7 156 RX1 yX1_refundOf wsX1_refundOf) := goodIn_app (goodIn_of _ (by decide +kernel)) ggX7_session_X1_refundOf
theorem dX7_session_0 : decode cX7_session 0 = .ok (.aload_n 0, 1) := by decide +kernel
theorem dX7_session_1 : decode cX7_session 1 = .ok (.getfield 10, 3) := by decide +kernel
theorem dX7_session_4 : decode cX7_session 4 = .ok (.iload_n 1, 1) := by decide +kernel
theorem dX7_session_5 : decode cX7_session 5 = .ok (.invokevirtual 144, 3) := by decide +kernel
theorem dX7_session_8 : decode cX7_session 8 = .ok (.astore_n 3, 1) := by decide +kernel
theorem dX7_session_9 : decode cX7_session 9 = .ok (.aload_n 3, 1) := by decide +kernel
theorem dX7_session_10 : decode cX7_session 10 = .ok (.ifnonnull 6, 3) := by decide +kernel
theorem dX7_session_13 : decode cX7_session 13 = .ok (.ldc 60, 2) := by decide +kernel
theorem dX7_session_15 : decode cX7_session 15 = .ok (.ireturn, 1) := by decide +kernel
theorem dX7_session_16 : decode cX7_session 16 = .ok (.iload_n 1, 1) := by decide +kernel
theorem dX7_session_17 : decode cX7_session 17 = .ok (.bipush 20, 2) := by decide +kernel
theorem dX7_session_19 : decode cX7_session 19 = .ok (.irem, 1) := by decide +kernel
theorem dX7_session_20 : decode cX7_session 20 = .ok (.istore 4, 2) := by decide +kernel
theorem dX7_session_22 : decode cX7_session 22 = .ok (.iload_n 2, 1) := by decide +kernel
theorem dX7_session_23 : decode cX7_session 23 = .ok (.tableswitch 78 0 3 #[29, 36, 43, 50], 29) := by decide +kernel
theorem dX7_session_52 : decode cX7_session 52 = .ok (.aload_n 3, 1) := by decide +kernel
theorem dX7_session_53 : decode cX7_session 53 = .ok (.iload 4, 2) := by decide +kernel
theorem dX7_session_55 : decode cX7_session 55 = .ok (.invokevirtual 147, 3) := by decide +kernel
theorem dX7_session_58 : decode cX7_session 58 = .ok (.ireturn, 1) := by decide +kernel
theorem dX7_session_59 : decode cX7_session 59 = .ok (.aload_n 3, 1) := by decide +kernel
theorem dX7_session_60 : decode cX7_session 60 = .ok (.iload 4, 2) := by decide +kernel
theorem dX7_session_62 : decode cX7_session 62 = .ok (.invokevirtual 150, 3) := by decide +kernel
theorem dX7_session_65 : decode cX7_session 65 = .ok (.ireturn, 1) := by decide +kernel
theorem dX7_session_66 : decode cX7_session 66 = .ok (.aload_n 3, 1) := by decide +kernel
theorem dX7_session_67 : decode cX7_session 67 = .ok (.iload 4, 2) := by decide +kernel
theorem dX7_session_69 : decode cX7_session 69 = .ok (.invokevirtual 153, 3) := by decide +kernel
theorem dX7_session_72 : decode cX7_session 72 = .ok (.ireturn, 1) := by decide +kernel
theorem dX7_session_73 : decode cX7_session 73 = .ok (.aload_n 3, 1) := by decide +kernel
theorem dX7_session_74 : decode cX7_session 74 = .ok (.iload 4, 2) := by decide +kernel
theorem dX7_session_76 : decode cX7_session 76 = .ok (.invokevirtual 150, 3) := by decide +kernel
theorem dX7_session_79 : decode cX7_session 79 = .ok (.ifCond .ne 19, 3) := by decide +kernel
theorem dX7_session_82 : decode cX7_session 82 = .ok (.aload_n 3, 1) := by decide +kernel
theorem dX7_session_83 : decode cX7_session 83 = .ok (.iload 4, 2) := by decide +kernel
theorem dX7_session_85 : decode cX7_session 85 = .ok (.aload_n 0, 1) := by decide +kernel
theorem dX7_session_86 : decode cX7_session 86 = .ok (.getfield 10, 3) := by decide +kernel
theorem dX7_session_89 : decode cX7_session 89 = .ok (.getfield 109, 3) := by decide +kernel
theorem dX7_session_92 : decode cX7_session 92 = .ok (.invokevirtual 156, 3) := by decide +kernel
theorem dX7_session_95 : decode cX7_session 95 = .ok (.goto 5, 3) := by decide +kernel
theorem dX7_session_98 : decode cX7_session 98 = .ok (.ldc 131, 2) := by decide +kernel
theorem dX7_session_100 : decode cX7_session 100 = .ok (.ireturn, 1) := by decide +kernel
theorem dX7_session_101 : decode cX7_session 101 = .ok (.ldc 60, 2) := by decide +kernel
theorem dX7_session_103 : decode cX7_session 103 = .ok (.ireturn, 1) := by decide +kernel
set_option maxRecDepth 20000 in
theorem ggX7_cancel_X0_hireOfSession : GoodIn wsX7_cancel wsX0_hireOfSession := goodIn_r _ [12, 13, 14, 15, 16, 11, 17, 18, 19, 112, 113, 114, 115, 116, 117, 118, 119, 120, 121, 122, 123, 124, 125, 126, 103, 104, 105, 106, 107, 108, 109, 110, 111] (by decide +kernel) (by decide +kernel)
set_option maxRecDepth 20000 in
theorem gX7_cancel_X0_hireOfSession : GoodIn wsX7_cancel (wsV RX7 144 RX0 yX0_hireOfSession wsX0_hireOfSession) := goodIn_app (goodIn_of _ (by decide +kernel)) ggX7_cancel_X0_hireOfSession
set_option maxRecDepth 20000 in
theorem ggX7_cancel_X1_stateOf : GoodIn wsX7_cancel wsX1_stateOf := goodIn_r _ [24, 25, 26, 112, 113, 114, 115, 116, 117, 118, 119, 120, 121, 122, 123, 124, 125, 126] (by decide +kernel) (by decide +kernel)
set_option maxRecDepth 20000 in
theorem gX7_cancel_X1_stateOf : GoodIn wsX7_cancel (wsV RX7 150 RX1 yX1_stateOf wsX1_stateOf) := goodIn_app (goodIn_of _ (by decide +kernel)) ggX7_cancel_X1_stateOf
set_option maxRecDepth 20000 in
theorem ggX7_cancel_X2_save : GoodIn wsX7_cancel wsX2_save := goodIn_r _ [31, 32, 33, 34, 35, 36, 30, 37, 38, 39, 40, 11, 41, 42, 43, 18, 44, 45, 46, 47, 48, 49, 50, 51, 19, 52, 53, 54, 55, 23, 56, 57, 58, 59, 60, 61, 62, 63, 64, 25, 26, 65, 66, 67, 68, 69, 70, 71, 72, 73, 74, 75, 76, 127, 128, 103, 104, 105, 106, 107, 108, 109, 110, 111, 112, 113, 114, 115, 116, 117, 118, 119, 120, 121, 122, 123, 124, 125, 126, 129, 130, 131] (by decide +kernel) (by decide +kernel)
set_option maxRecDepth 20000 in
theorem gX7_cancel_X2_save : GoodIn wsX7_cancel (wsV RX7 52 RX2 yX2_save wsX2_save) := goodIn_app (goodIn_of _ (by decide +kernel)) ggX7_cancel_X2_save
set_option maxRecDepth 20000 in
theorem ggX7_cancel_X1_refundOf : GoodIn wsX7_cancel wsX1_refundOf := goodIn_r _ [80, 81, 82, 83, 23, 84, 62, 63, 85, 86, 87, 88, 61, 64, 112, 113, 114, 115, 116, 117, 118, 119, 120, 121, 122, 123, 124, 125, 126] (by decide +kernel) (by decide +kernel)
set_option maxRecDepth 20000 in
theorem gX7_cancel_X1_refundOf : GoodIn wsX7_cancel (wsV RX7 156 RX1 yX1_refundOf wsX1_refundOf) := goodIn_app (goodIn_of _ (by decide +kernel)) ggX7_cancel_X1_refundOf
set_option maxRecDepth 20000 in
theorem ggX7_cancel_X0_credit : GoodIn wsX7_cancel wsX0_credit := goodIn_r _ [92, 51, 49, 93, 94, 95, 11, 96, 43, 103, 104, 105, 106, 107, 108, 109, 110, 111] (by decide +kernel) (by decide +kernel)
set_option maxRecDepth 20000 in
theorem gX7_cancel_X0_credit : GoodIn wsX7_cancel (wsV RX7 83 RX0 yX0_credit wsX0_credit) := goodIn_app (goodIn_of _ (by decide +kernel)) ggX7_cancel_X0_credit
theorem dX7_cancel_0 : decode cX7_cancel 0 = .ok (.aload_n 0, 1) := by decide +kernel
theorem dX7_cancel_1 : decode cX7_cancel 1 = .ok (.getfield 10, 3) := by decide +kernel
theorem dX7_cancel_4 : decode cX7_cancel 4 = .ok (.iload_n 1, 1) := by decide +kernel
theorem dX7_cancel_5 : decode cX7_cancel 5 = .ok (.invokevirtual 144, 3) := by decide +kernel
theorem dX7_cancel_8 : decode cX7_cancel 8 = .ok (.astore_n 2, 1) := by decide +kernel
theorem dX7_cancel_9 : decode cX7_cancel 9 = .ok (.aload_n 2, 1) := by decide +kernel
theorem dX7_cancel_10 : decode cX7_cancel 10 = .ok (.ifnonnull 6, 3) := by decide +kernel
theorem dX7_cancel_13 : decode cX7_cancel 13 = .ok (.ldc 60, 2) := by decide +kernel
theorem dX7_cancel_15 : decode cX7_cancel 15 = .ok (.ireturn, 1) := by decide +kernel
theorem dX7_cancel_16 : decode cX7_cancel 16 = .ok (.iload_n 1, 1) := by decide +kernel
theorem dX7_cancel_17 : decode cX7_cancel 17 = .ok (.bipush 20, 2) := by decide +kernel
theorem dX7_cancel_19 : decode cX7_cancel 19 = .ok (.irem, 1) := by decide +kernel
theorem dX7_cancel_20 : decode cX7_cancel 20 = .ok (.istore_n 3, 1) := by decide +kernel
theorem dX7_cancel_21 : decode cX7_cancel 21 = .ok (.aload_n 2, 1) := by decide +kernel
theorem dX7_cancel_22 : decode cX7_cancel 22 = .ok (.iload_n 3, 1) := by decide +kernel
theorem dX7_cancel_23 : decode cX7_cancel 23 = .ok (.invokevirtual 150, 3) := by decide +kernel
theorem dX7_cancel_26 : decode cX7_cancel 26 = .ok (.ifCond .eq 6, 3) := by decide +kernel
theorem dX7_cancel_29 : decode cX7_cancel 29 = .ok (.ldc 119, 2) := by decide +kernel
theorem dX7_cancel_31 : decode cX7_cancel 31 = .ok (.ireturn, 1) := by decide +kernel
theorem dX7_cancel_32 : decode cX7_cancel 32 = .ok (.aload_n 0, 1) := by decide +kernel
theorem dX7_cancel_33 : decode cX7_cancel 33 = .ok (.getfield 19, 3) := by decide +kernel
theorem dX7_cancel_36 : decode cX7_cancel 36 = .ok (.aload_n 0, 1) := by decide +kernel
theorem dX7_cancel_37 : decode cX7_cancel 37 = .ok (.getfield 10, 3) := by decide +kernel
theorem dX7_cancel_40 : decode cX7_cancel 40 = .ok (.invokevirtual 52, 3) := by decide +kernel
theorem dX7_cancel_43 : decode cX7_cancel 43 = .ok (.aload_n 2, 1) := by decide +kernel
theorem dX7_cancel_44 : decode cX7_cancel 44 = .ok (.iload_n 3, 1) := by decide +kernel
theorem dX7_cancel_45 : decode cX7_cancel 45 = .ok (.aload_n 0, 1) := by decide +kernel
theorem dX7_cancel_46 : decode cX7_cancel 46 = .ok (.getfield 10, 3) := by decide +kernel
theorem dX7_cancel_49 : decode cX7_cancel 49 = .ok (.getfield 109, 3) := by decide +kernel
theorem dX7_cancel_52 : decode cX7_cancel 52 = .ok (.invokevirtual 156, 3) := by decide +kernel
theorem dX7_cancel_55 : decode cX7_cancel 55 = .ok (.istore 4, 2) := by decide +kernel
theorem dX7_cancel_57 : decode cX7_cancel 57 = .ok (.aload_n 2, 1) := by decide +kernel
theorem dX7_cancel_58 : decode cX7_cancel 58 = .ok (.dup, 1) := by decide +kernel
theorem dX7_cancel_59 : decode cX7_cancel 59 = .ok (.getfield 160, 3) := by decide +kernel
theorem dX7_cancel_62 : decode cX7_cancel 62 = .ok (.iconst 1, 1) := by decide +kernel
theorem dX7_cancel_63 : decode cX7_cancel 63 = .ok (.iload_n 3, 1) := by decide +kernel
theorem dX7_cancel_64 : decode cX7_cancel 64 = .ok (.ishl, 1) := by decide +kernel
theorem dX7_cancel_65 : decode cX7_cancel 65 = .ok (.ior, 1) := by decide +kernel
theorem dX7_cancel_66 : decode cX7_cancel 66 = .ok (.putfield 160, 3) := by decide +kernel
theorem dX7_cancel_69 : decode cX7_cancel 69 = .ok (.aload_n 0, 1) := by decide +kernel
theorem dX7_cancel_70 : decode cX7_cancel 70 = .ok (.getfield 10, 3) := by decide +kernel
theorem dX7_cancel_73 : decode cX7_cancel 73 = .ok (.aload_n 2, 1) := by decide +kernel
theorem dX7_cancel_74 : decode cX7_cancel 74 = .ok (.getfield 163, 3) := by decide +kernel
theorem dX7_cancel_77 : decode cX7_cancel 77 = .ok (.iload 4, 2) := by decide +kernel
theorem dX7_cancel_79 : decode cX7_cancel 79 = .ok (.iconst 1, 1) := by decide +kernel
theorem dX7_cancel_80 : decode cX7_cancel 80 = .ok (.invokevirtual 83, 3) := by decide +kernel
theorem dX7_cancel_83 : decode cX7_cancel 83 = .ok (.iload 4, 2) := by decide +kernel
theorem dX7_cancel_85 : decode cX7_cancel 85 = .ok (.ireturn, 1) := by decide +kernel
set_option maxRecDepth 20000 in
theorem ggX7_firstFree_X0_isHirer : GoodIn wsX7_firstFree wsX0_isHirer := goodIn_r _ [14, 15, 54, 55, 56, 57, 58, 59, 60, 61, 62] (by decide +kernel) (by decide +kernel)
set_option maxRecDepth 20000 in
theorem gX7_firstFree_X0_isHirer : GoodIn wsX7_firstFree (wsV RX7 56 RX0 yX0_isHirer wsX0_isHirer) := goodIn_app (goodIn_of _ (by decide +kernel)) ggX7_firstFree_X0_isHirer
set_option maxRecDepth 20000 in
theorem ggX7_firstFree_X7_areRooms : GoodIn wsX7_firstFree wsX7_areRooms := goodIn_r _ [19] (by decide +kernel) (by decide +kernel)
set_option maxRecDepth 20000 in
theorem gX7_firstFree_X7_areRooms : GoodIn wsX7_firstFree (va_wsS RX7 106 yX7_areRooms wsX7_areRooms) := goodIn_app (goodIn_of _ (by decide +kernel)) ggX7_firstFree_X7_areRooms
set_option maxRecDepth 20000 in
theorem ggX7_firstFree_X0_blockedHours : GoodIn wsX7_firstFree wsX0_blockedHours := goodIn_r _ [23, 24, 25, 26, 27, 28, 29, 30, 31, 32, 33, 34, 35, 36, 37, 38, 39, 40, 41, 42, 18, 43, 4, 5, 6, 7, 44, 45, 46, 54, 55, 56, 57, 58, 59, 60, 61, 62, 63, 64, 65, 66, 67, 68, 69, 70, 71, 72, 73, 74, 75, 76, 77] (by decide +kernel) (by decide +kernel)
set_option maxRecDepth 20000 in
theorem gX7_firstFree_X0_blockedHours : GoodIn wsX7_firstFree (wsV RX7 167 RX0 yX0_blockedHours wsX0_blockedHours) := goodIn_app (goodIn_of _ (by decide +kernel)) ggX7_firstFree_X0_blockedHours
set_option maxRecDepth 20000 in
theorem ggX7_firstFree_X7_hoursMask : GoodIn wsX7_firstFree wsX7_hoursMask := goodIn_r _ [43, 4, 5, 6, 7, 44, 45, 46] (by decide +kernel) (by decide +kernel)
set_option maxRecDepth 20000 in
theorem gX7_firstFree_X7_hoursMask : GoodIn wsX7_firstFree (va_wsS RX7 176 yX7_hoursMask wsX7_hoursMask) := goodIn_app (goodIn_of _ (by decide +kernel)) ggX7_firstFree_X7_hoursMask
theorem dX7_firstFree_0 : decode cX7_firstFree 0 = .ok (.aload_n 0, 1) := by decide +kernel
theorem dX7_firstFree_1 : decode cX7_firstFree 1 = .ok (.getfield 10, 3) := by decide +kernel
theorem dX7_firstFree_4 : decode cX7_firstFree 4 = .ok (.iload_n 1, 1) := by decide +kernel
theorem dX7_firstFree_5 : decode cX7_firstFree 5 = .ok (.invokevirtual 56, 3) := by decide +kernel
theorem dX7_firstFree_8 : decode cX7_firstFree 8 = .ok (.ifCond .eq 34, 3) := by decide +kernel
theorem dX7_firstFree_11 : decode cX7_firstFree 11 = .ok (.iload_n 2, 1) := by decide +kernel
theorem dX7_firstFree_12 : decode cX7_firstFree 12 = .ok (.invokestatic 106, 3) := by decide +kernel
theorem dX7_firstFree_15 : decode cX7_firstFree 15 = .ok (.ifCond .eq 27, 3) := by decide +kernel
theorem dX7_firstFree_18 : decode cX7_firstFree 18 = .ok (.iload_n 3, 1) := by decide +kernel
theorem dX7_firstFree_19 : decode cX7_firstFree 19 = .ok (.ifCond .lt 23, 3) := by decide +kernel
theorem dX7_firstFree_22 : decode cX7_firstFree 22 = .ok (.iload_n 3, 1) := by decide +kernel
theorem dX7_firstFree_23 : decode cX7_firstFree 23 = .ok (.sipush 364, 3) := by decide +kernel
theorem dX7_firstFree_26 : decode cX7_firstFree 26 = .ok (.if_icmp .gt 16, 3) := by decide +kernel
theorem dX7_firstFree_29 : decode cX7_firstFree 29 = .ok (.iload 4, 2) := by decide +kernel
theorem dX7_firstFree_31 : decode cX7_firstFree 31 = .ok (.iconst 1, 1) := by decide +kernel
theorem dX7_firstFree_32 : decode cX7_firstFree 32 = .ok (.if_icmp .lt 10, 3) := by decide +kernel
theorem dX7_firstFree_35 : decode cX7_firstFree 35 = .ok (.iload 4, 2) := by decide +kernel
theorem dX7_firstFree_37 : decode cX7_firstFree 37 = .ok (.bipush 15, 2) := by decide +kernel
theorem dX7_firstFree_39 : decode cX7_firstFree 39 = .ok (.if_icmp .le 6, 3) := by decide +kernel
theorem dX7_firstFree_42 : decode cX7_firstFree 42 = .ok (.ldc 60, 2) := by decide +kernel
theorem dX7_firstFree_44 : decode cX7_firstFree 44 = .ok (.ireturn, 1) := by decide +kernel
theorem dX7_firstFree_45 : decode cX7_firstFree 45 = .ok (.iload_n 3, 1) := by decide +kernel
theorem dX7_firstFree_46 : decode cX7_firstFree 46 = .ok (.aload_n 0, 1) := by decide +kernel
theorem dX7_firstFree_47 : decode cX7_firstFree 47 = .ok (.getfield 10, 3) := by decide +kernel
theorem dX7_firstFree_50 : decode cX7_firstFree 50 = .ok (.getfield 109, 3) := by decide +kernel
theorem dX7_firstFree_53 : decode cX7_firstFree 53 = .ok (.invokestatic 171, 3) := by decide +kernel
theorem dX7_firstFree_56 : decode cX7_firstFree 56 = .ok (.istore 5, 2) := by decide +kernel
theorem dX7_firstFree_58 : decode cX7_firstFree 58 = .ok (.iload 5, 2) := by decide +kernel
theorem dX7_firstFree_60 : decode cX7_firstFree 60 = .ok (.sipush 364, 3) := by decide +kernel
theorem dX7_firstFree_63 : decode cX7_firstFree 63 = .ok (.if_icmp .gt 76, 3) := by decide +kernel
theorem dX7_firstFree_66 : decode cX7_firstFree 66 = .ok (.aload_n 0, 1) := by decide +kernel
theorem dX7_firstFree_67 : decode cX7_firstFree 67 = .ok (.getfield 10, 3) := by decide +kernel
theorem dX7_firstFree_70 : decode cX7_firstFree 70 = .ok (.iload 5, 2) := by decide +kernel
theorem dX7_firstFree_72 : decode cX7_firstFree 72 = .ok (.iload_n 2, 1) := by decide +kernel
theorem dX7_firstFree_73 : decode cX7_firstFree 73 = .ok (.iload_n 1, 1) := by decide +kernel
theorem dX7_firstFree_74 : decode cX7_firstFree 74 = .ok (.aload_n 0, 1) := by decide +kernel
theorem dX7_firstFree_75 : decode cX7_firstFree 75 = .ok (.getfield 10, 3) := by decide +kernel
theorem dX7_firstFree_78 : decode cX7_firstFree 78 = .ok (.getfield 90, 3) := by decide +kernel
theorem dX7_firstFree_81 : decode cX7_firstFree 81 = .ok (.iconst 4, 1) := by decide +kernel
theorem dX7_firstFree_82 : decode cX7_firstFree 82 = .ok (.iaload, 1) := by decide +kernel
theorem dX7_firstFree_83 : decode cX7_firstFree 83 = .ok (.invokevirtual 167, 3) := by decide +kernel
theorem dX7_firstFree_86 : decode cX7_firstFree 86 = .ok (.istore 6, 2) := by decide +kernel
theorem dX7_firstFree_88 : decode cX7_firstFree 88 = .ok (.bipush 8, 2) := by decide +kernel
theorem dX7_firstFree_90 : decode cX7_firstFree 90 = .ok (.istore 7, 2) := by decide +kernel
theorem dX7_firstFree_92 : decode cX7_firstFree 92 = .ok (.iload 7, 2) := by decide +kernel
theorem dX7_firstFree_94 : decode cX7_firstFree 94 = .ok (.iload 4, 2) := by decide +kernel
theorem dX7_firstFree_96 : decode cX7_firstFree 96 = .ok (.iadd, 1) := by decide +kernel
theorem dX7_firstFree_97 : decode cX7_firstFree 97 = .ok (.bipush 23, 2) := by decide +kernel
theorem dX7_firstFree_99 : decode cX7_firstFree 99 = .ok (.if_icmp .gt 34, 3) := by decide +kernel
theorem dX7_firstFree_102 : decode cX7_firstFree 102 = .ok (.iload 6, 2) := by decide +kernel
theorem dX7_firstFree_104 : decode cX7_firstFree 104 = .ok (.iload 7, 2) := by decide +kernel
theorem dX7_firstFree_106 : decode cX7_firstFree 106 = .ok (.iload 7, 2) := by decide +kernel
theorem dX7_firstFree_108 : decode cX7_firstFree 108 = .ok (.iload 4, 2) := by decide +kernel
theorem dX7_firstFree_110 : decode cX7_firstFree 110 = .ok (.iadd, 1) := by decide +kernel
theorem dX7_firstFree_111 : decode cX7_firstFree 111 = .ok (.invokestatic 176, 3) := by decide +kernel
theorem dX7_firstFree_114 : decode cX7_firstFree 114 = .ok (.iand, 1) := by decide +kernel
theorem dX7_firstFree_115 : decode cX7_firstFree 115 = .ok (.ifCond .ne 12, 3) := by decide +kernel
theorem dX7_firstFree_118 : decode cX7_firstFree 118 = .ok (.bipush 100, 2) := by decide +kernel
theorem dX7_firstFree_120 : decode cX7_firstFree 120 = .ok (.iload 5, 2) := by decide +kernel
theorem dX7_firstFree_122 : decode cX7_firstFree 122 = .ok (.imul, 1) := by decide +kernel
theorem dX7_firstFree_123 : decode cX7_firstFree 123 = .ok (.iload 7, 2) := by decide +kernel
theorem dX7_firstFree_125 : decode cX7_firstFree 125 = .ok (.iadd, 1) := by decide +kernel
theorem dX7_firstFree_126 : decode cX7_firstFree 126 = .ok (.ireturn, 1) := by decide +kernel
theorem dX7_firstFree_127 : decode cX7_firstFree 127 = .ok (.iinc 7 1, 3) := by decide +kernel
theorem dX7_firstFree_130 : decode cX7_firstFree 130 = .ok (.goto (-38), 3) := by decide +kernel
theorem dX7_firstFree_133 : decode cX7_firstFree 133 = .ok (.iinc 5 1, 3) := by decide +kernel
theorem dX7_firstFree_136 : decode cX7_firstFree 136 = .ok (.goto (-78), 3) := by decide +kernel
theorem dX7_firstFree_139 : decode cX7_firstFree 139 = .ok (.ldc 131, 2) := by decide +kernel
theorem dX7_firstFree_141 : decode cX7_firstFree 141 = .ok (.ireturn, 1) := by decide +kernel
set_option maxRecDepth 20000 in
theorem ggX7_inOrder_X0_sessionsOn : GoodIn wsX7_inOrder wsX0_sessionsOn := goodIn_r _ [8, 9, 10, 11, 12, 13, 14, 15, 16, 17, 18, 19, 20, 21, 22, 50, 51, 52, 53, 54, 55, 56, 57, 58, 59, 60, 61, 62, 63, 64, 65, 66, 67, 68, 69, 70, 71, 72, 73] (by decide +kernel) (by decide +kernel)
set_option maxRecDepth 20000 in
theorem gX7_inOrder_X0_sessionsOn : GoodIn wsX7_inOrder (wsV RX7 179 RX0 yX0_sessionsOn wsX0_sessionsOn) := goodIn_app (goodIn_of _ (by decide +kernel)) ggX7_inOrder_X0_sessionsOn
set_option maxRecDepth 20000 in
theorem ggX7_inOrder_X0_sessionInOrder : GoodIn wsX7_inOrder wsX0_sessionInOrder := goodIn_r _ [26, 9, 27, 10, 11, 12, 13, 14, 15, 16, 17, 18, 19, 20, 21, 22, 28, 29, 30, 7, 31, 32, 33, 34, 35, 36, 37, 38, 39, 40, 41, 42, 43, 50, 51, 52, 53, 54, 55, 56, 57, 58, 59, 60, 61, 62, 63, 64, 65, 66, 67, 68, 69, 70, 71, 72, 73] (by decide +kernel) (by decide +kernel)
set_option maxRecDepth 20000 in
theorem gX7_inOrder_X0_sessionInOrder : GoodIn wsX7_inOrder (wsV RX7 182 RX0 yX0_sessionInOrder wsX0_sessionInOrder) := goodIn_app (goodIn_of _ (by decide +kernel)) ggX7_inOrder_X0_sessionInOrder
theorem dX7_inOrder_0 : decode cX7_inOrder 0 = .ok (.iload_n 1, 1) := by decide +kernel
theorem dX7_inOrder_1 : decode cX7_inOrder 1 = .ok (.ifCond .ge 6, 3) := by decide +kernel
theorem dX7_inOrder_4 : decode cX7_inOrder 4 = .ok (.ldc 60, 2) := by decide +kernel
theorem dX7_inOrder_6 : decode cX7_inOrder 6 = .ok (.ireturn, 1) := by decide +kernel
theorem dX7_inOrder_7 : decode cX7_inOrder 7 = .ok (.iload_n 1, 1) := by decide +kernel
theorem dX7_inOrder_8 : decode cX7_inOrder 8 = .ok (.istore_n 2, 1) := by decide +kernel
theorem dX7_inOrder_9 : decode cX7_inOrder 9 = .ok (.iconst 0, 1) := by decide +kernel
theorem dX7_inOrder_10 : decode cX7_inOrder 10 = .ok (.istore_n 3, 1) := by decide +kernel
theorem dX7_inOrder_11 : decode cX7_inOrder 11 = .ok (.iload_n 3, 1) := by decide +kernel
theorem dX7_inOrder_12 : decode cX7_inOrder 12 = .ok (.sipush 364, 3) := by decide +kernel
theorem dX7_inOrder_15 : decode cX7_inOrder 15 = .ok (.if_icmp .gt 40, 3) := by decide +kernel
theorem dX7_inOrder_18 : decode cX7_inOrder 18 = .ok (.aload_n 0, 1) := by decide +kernel
theorem dX7_inOrder_19 : decode cX7_inOrder 19 = .ok (.getfield 10, 3) := by decide +kernel
theorem dX7_inOrder_22 : decode cX7_inOrder 22 = .ok (.iload_n 3, 1) := by decide +kernel
theorem dX7_inOrder_23 : decode cX7_inOrder 23 = .ok (.invokevirtual 179, 3) := by decide +kernel
theorem dX7_inOrder_26 : decode cX7_inOrder 26 = .ok (.istore 4, 2) := by decide +kernel
theorem dX7_inOrder_28 : decode cX7_inOrder 28 = .ok (.iload_n 2, 1) := by decide +kernel
theorem dX7_inOrder_29 : decode cX7_inOrder 29 = .ok (.iload 4, 2) := by decide +kernel
theorem dX7_inOrder_31 : decode cX7_inOrder 31 = .ok (.if_icmp .ge 13, 3) := by decide +kernel
theorem dX7_inOrder_34 : decode cX7_inOrder 34 = .ok (.aload_n 0, 1) := by decide +kernel
theorem dX7_inOrder_35 : decode cX7_inOrder 35 = .ok (.getfield 10, 3) := by decide +kernel
theorem dX7_inOrder_38 : decode cX7_inOrder 38 = .ok (.iload_n 3, 1) := by decide +kernel
theorem dX7_inOrder_39 : decode cX7_inOrder 39 = .ok (.iload_n 2, 1) := by decide +kernel
theorem dX7_inOrder_40 : decode cX7_inOrder 40 = .ok (.invokevirtual 182, 3) := by decide +kernel
theorem dX7_inOrder_43 : decode cX7_inOrder 43 = .ok (.ireturn, 1) := by decide +kernel
theorem dX7_inOrder_44 : decode cX7_inOrder 44 = .ok (.iload_n 2, 1) := by decide +kernel
theorem dX7_inOrder_45 : decode cX7_inOrder 45 = .ok (.iload 4, 2) := by decide +kernel
theorem dX7_inOrder_47 : decode cX7_inOrder 47 = .ok (.isub, 1) := by decide +kernel
theorem dX7_inOrder_48 : decode cX7_inOrder 48 = .ok (.istore_n 2, 1) := by decide +kernel
theorem dX7_inOrder_49 : decode cX7_inOrder 49 = .ok (.iinc 3 1, 3) := by decide +kernel
theorem dX7_inOrder_52 : decode cX7_inOrder 52 = .ok (.goto (-41), 3) := by decide +kernel
theorem dX7_inOrder_55 : decode cX7_inOrder 55 = .ok (.ldc 131, 2) := by decide +kernel
theorem dX7_inOrder_57 : decode cX7_inOrder 57 = .ok (.ireturn, 1) := by decide +kernel
set_option maxRecDepth 20000 in
theorem ggX7_pass_X2_save : GoodIn wsX7_pass wsX2_save := goodIn_r _ [10, 11, 12, 13, 14, 15, 9, 16, 17, 18, 19, 20, 21, 22, 23, 24, 25, 26, 27, 28, 29, 30, 31, 32, 33, 34, 35, 36, 37, 38, 39, 40, 41, 42, 43, 44, 45, 46, 47, 48, 49, 50, 51, 52, 53, 54, 55, 56, 57, 58, 59, 60, 61, 120, 121, 111, 112, 113, 114, 115, 116, 117, 118, 119, 122, 123, 124, 125, 126, 127, 128, 129, 130, 131, 132, 133, 134, 135, 136, 137, 138, 139] (by decide +kernel) (by decide +kernel)
set_option maxRecDepth 20000 in
theorem gX7_pass_X2_save : GoodIn wsX7_pass (wsV RX7 52 RX2 yX2_save wsX2_save) := goodIn_app (goodIn_of _ (by decide +kernel)) ggX7_pass_X2_save
set_option maxRecDepth 20000 in
theorem ggX7_pass_X0_passDay : GoodIn wsX7_pass wsX0_passDay := goodIn_r _ [65, 33, 22, 66, 67, 68, 69, 38, 70, 45, 46, 44, 49, 71, 72, 73, 20, 74, 34, 75, 25, 76, 77, 78, 79, 24, 80, 81, 82, 58, 83, 60, 61, 84, 85, 86, 87, 88, 89, 90, 91, 92, 93, 94, 95, 30, 96, 97, 98, 99, 100, 31, 101, 102, 103, 104, 23, 111, 112, 113, 114, 115, 116, 117, 118, 119, 122, 123, 124, 125, 126, 127, 128, 129, 130, 131, 132, 133, 134, 135, 136, 137, 138, 139] (by decide +kernel) (by decide +kernel)
set_option maxRecDepth 20000 in
theorem gX7_pass_X0_passDay : GoodIn wsX7_pass (wsV RX7 185 RX0 yX0_passDay wsX0_passDay) := goodIn_app (goodIn_of _ (by decide +kernel)) ggX7_pass_X0_passDay
theorem dX7_pass_0 : decode cX7_pass 0 = .ok (.iload_n 1, 1) := by decide +kernel
theorem dX7_pass_1 : decode cX7_pass 1 = .ok (.iconst 1, 1) := by decide +kernel
theorem dX7_pass_2 : decode cX7_pass 2 = .ok (.if_icmp .lt 9, 3) := by decide +kernel
theorem dX7_pass_5 : decode cX7_pass 5 = .ok (.iload_n 1, 1) := by decide +kernel
theorem dX7_pass_6 : decode cX7_pass 6 = .ok (.bipush 60, 2) := by decide +kernel
theorem dX7_pass_8 : decode cX7_pass 8 = .ok (.if_icmp .le 6, 3) := by decide +kernel
theorem dX7_pass_11 : decode cX7_pass 11 = .ok (.ldc 60, 2) := by decide +kernel
theorem dX7_pass_13 : decode cX7_pass 13 = .ok (.ireturn, 1) := by decide +kernel
theorem dX7_pass_14 : decode cX7_pass 14 = .ok (.aload_n 0, 1) := by decide +kernel
theorem dX7_pass_15 : decode cX7_pass 15 = .ok (.getfield 10, 3) := by decide +kernel
theorem dX7_pass_18 : decode cX7_pass 18 = .ok (.getfield 109, 3) := by decide +kernel
theorem dX7_pass_21 : decode cX7_pass 21 = .ok (.iload_n 1, 1) := by decide +kernel
theorem dX7_pass_22 : decode cX7_pass 22 = .ok (.iadd, 1) := by decide +kernel
theorem dX7_pass_23 : decode cX7_pass 23 = .ok (.sipush 400, 3) := by decide +kernel
theorem dX7_pass_26 : decode cX7_pass 26 = .ok (.if_icmp .le 6, 3) := by decide +kernel
theorem dX7_pass_29 : decode cX7_pass 29 = .ok (.ldc 51, 2) := by decide +kernel
theorem dX7_pass_31 : decode cX7_pass 31 = .ok (.ireturn, 1) := by decide +kernel
theorem dX7_pass_32 : decode cX7_pass 32 = .ok (.aload_n 0, 1) := by decide +kernel
theorem dX7_pass_33 : decode cX7_pass 33 = .ok (.getfield 19, 3) := by decide +kernel
theorem dX7_pass_36 : decode cX7_pass 36 = .ok (.aload_n 0, 1) := by decide +kernel
theorem dX7_pass_37 : decode cX7_pass 37 = .ok (.getfield 10, 3) := by decide +kernel
theorem dX7_pass_40 : decode cX7_pass 40 = .ok (.invokevirtual 52, 3) := by decide +kernel
theorem dX7_pass_43 : decode cX7_pass 43 = .ok (.iconst 0, 1) := by decide +kernel
theorem dX7_pass_44 : decode cX7_pass 44 = .ok (.istore_n 2, 1) := by decide +kernel
theorem dX7_pass_45 : decode cX7_pass 45 = .ok (.iconst 0, 1) := by decide +kernel
theorem dX7_pass_46 : decode cX7_pass 46 = .ok (.istore_n 3, 1) := by decide +kernel
theorem dX7_pass_47 : decode cX7_pass 47 = .ok (.iload_n 3, 1) := by decide +kernel
theorem dX7_pass_48 : decode cX7_pass 48 = .ok (.iload_n 1, 1) := by decide +kernel
theorem dX7_pass_49 : decode cX7_pass 49 = .ok (.if_icmp .ge 19, 3) := by decide +kernel
theorem dX7_pass_52 : decode cX7_pass 52 = .ok (.iload_n 2, 1) := by decide +kernel
theorem dX7_pass_53 : decode cX7_pass 53 = .ok (.aload_n 0, 1) := by decide +kernel
theorem dX7_pass_54 : decode cX7_pass 54 = .ok (.getfield 10, 3) := by decide +kernel
theorem dX7_pass_57 : decode cX7_pass 57 = .ok (.invokevirtual 185, 3) := by decide +kernel
theorem dX7_pass_60 : decode cX7_pass 60 = .ok (.iadd, 1) := by decide +kernel
theorem dX7_pass_61 : decode cX7_pass 61 = .ok (.istore_n 2, 1) := by decide +kernel
theorem dX7_pass_62 : decode cX7_pass 62 = .ok (.iinc 3 1, 3) := by decide +kernel
theorem dX7_pass_65 : decode cX7_pass 65 = .ok (.goto (-18), 3) := by decide +kernel
theorem dX7_pass_68 : decode cX7_pass 68 = .ok (.iload_n 2, 1) := by decide +kernel
theorem dX7_pass_69 : decode cX7_pass 69 = .ok (.ireturn, 1) := by decide +kernel
set_option maxRecDepth 20000 in
theorem ggX7_count_X0_sessionsNotCancelled : GoodIn wsX7_count wsX0_sessionsNotCancelled := goodIn_r _ [13, 14, 15, 16, 17, 18, 19, 20, 21, 22, 23, 74, 75, 76, 77, 78, 79, 80, 81, 82, 88, 89, 90, 91, 92, 93, 94, 95, 96, 97, 98, 99, 100, 101, 102] (by decide +kernel) (by decide +kernel)
set_option maxRecDepth 20000 in
theorem gX7_count_X0_sessionsNotCancelled : GoodIn wsX7_count (wsV RX7 191 RX0 yX0_sessionsNotCancelled wsX0_sessionsNotCancelled) := goodIn_app (goodIn_of _ (by decide +kernel)) ggX7_count_X0_sessionsNotCancelled
set_option maxRecDepth 20000 in
theorem ggX7_count_X0_keysFor : GoodIn wsX7_count wsX0_keysFor := goodIn_r _ [27, 28, 29, 74, 75, 76, 77, 78, 79, 80, 81, 82, 103, 104, 105] (by decide +kernel) (by decide +kernel)
set_option maxRecDepth 20000 in
theorem gX7_count_X0_keysFor : GoodIn wsX7_count (wsV RX7 136 RX0 yX0_keysFor wsX0_keysFor) := goodIn_app (goodIn_of _ (by decide +kernel)) ggX7_count_X0_keysFor
set_option maxRecDepth 20000 in
theorem ggX7_count_X0_lateKeys : GoodIn wsX7_count wsX0_lateKeys := goodIn_r _ [33, 28, 34, 35, 36, 37, 38, 39, 40, 41, 42, 43, 44, 45, 74, 75, 76, 77, 78, 79, 80, 81, 82, 103, 104, 105] (by decide +kernel) (by decide +kernel)
set_option maxRecDepth 20000 in
theorem gX7_count_X0_lateKeys : GoodIn wsX7_count (wsV RX7 194 RX0 yX0_lateKeys wsX0_lateKeys) := goodIn_app (goodIn_of _ (by decide +kernel)) ggX7_count_X0_lateKeys
set_option maxRecDepth 20000 in
theorem ggX7_count_X0_roomHoursHeld : GoodIn wsX7_count wsX0_roomHoursHeld := goodIn_r _ [49, 14, 50, 51, 52, 53, 54, 55, 56, 57, 58, 59, 18, 19, 20, 21, 22, 23, 74, 75, 76, 77, 78, 79, 80, 81, 82, 88, 89, 90, 91, 92, 93, 94, 95, 96, 97, 98, 99, 100, 101, 102] (by decide +kernel) (by decide +kernel)
set_option maxRecDepth 20000 in
theorem gX7_count_X0_roomHoursHeld : GoodIn wsX7_count (wsV RX7 197 RX0 yX0_roomHoursHeld wsX0_roomHoursHeld) := goodIn_app (goodIn_of _ (by decide +kernel)) ggX7_count_X0_roomHoursHeld
set_option maxRecDepth 20000 in
theorem ggX7_count_X7_settingOrAccount : GoodIn wsX7_count wsX7_settingOrAccount := goodIn_r _ [64, 1, 65, 66, 67, 68, 69, 70, 71, 72, 73, 74, 75, 76, 77, 78, 79, 80, 81, 82] (by decide +kernel) (by decide +kernel)
set_option maxRecDepth 20000 in
theorem gX7_count_X7_settingOrAccount : GoodIn wsX7_count (wsV RX7 206 RX7 yX7_settingOrAccount wsX7_settingOrAccount) := goodIn_app (goodIn_of _ (by decide +kernel)) ggX7_count_X7_settingOrAccount
theorem dX7_count_0 : decode cX7_count 0 = .ok (.iload_n 1, 1) := by decide +kernel
theorem dX7_count_1 : decode cX7_count 1 = .ok (.tableswitch 124 0 8 #[51, 59, 67, 75, 83, 92, 100, 108, 116], 51) := by decide +kernel
theorem dX7_count_52 : decode cX7_count 52 = .ok (.aload_n 0, 1) := by decide +kernel
theorem dX7_count_53 : decode cX7_count 53 = .ok (.getfield 10, 3) := by decide +kernel
theorem dX7_count_56 : decode cX7_count 56 = .ok (.getfield 109, 3) := by decide +kernel
theorem dX7_count_59 : decode cX7_count 59 = .ok (.ireturn, 1) := by decide +kernel
theorem dX7_count_60 : decode cX7_count 60 = .ok (.aload_n 0, 1) := by decide +kernel
theorem dX7_count_61 : decode cX7_count 61 = .ok (.getfield 10, 3) := by decide +kernel
theorem dX7_count_64 : decode cX7_count 64 = .ok (.getfield 48, 3) := by decide +kernel
theorem dX7_count_67 : decode cX7_count 67 = .ok (.ireturn, 1) := by decide +kernel
theorem dX7_count_68 : decode cX7_count 68 = .ok (.aload_n 0, 1) := by decide +kernel
theorem dX7_count_69 : decode cX7_count 69 = .ok (.getfield 10, 3) := by decide +kernel
theorem dX7_count_72 : decode cX7_count 72 = .ok (.getfield 188, 3) := by decide +kernel
theorem dX7_count_75 : decode cX7_count 75 = .ok (.ireturn, 1) := by decide +kernel
theorem dX7_count_76 : decode cX7_count 76 = .ok (.aload_n 0, 1) := by decide +kernel
theorem dX7_count_77 : decode cX7_count 77 = .ok (.getfield 10, 3) := by decide +kernel
theorem dX7_count_80 : decode cX7_count 80 = .ok (.invokevirtual 191, 3) := by decide +kernel
theorem dX7_count_83 : decode cX7_count 83 = .ok (.ireturn, 1) := by decide +kernel
theorem dX7_count_84 : decode cX7_count 84 = .ok (.aload_n 0, 1) := by decide +kernel
theorem dX7_count_85 : decode cX7_count 85 = .ok (.getfield 10, 3) := by decide +kernel
theorem dX7_count_88 : decode cX7_count 88 = .ok (.iconst (-1), 1) := by decide +kernel
theorem dX7_count_89 : decode cX7_count 89 = .ok (.invokevirtual 136, 3) := by decide +kernel
theorem dX7_count_92 : decode cX7_count 92 = .ok (.ireturn, 1) := by decide +kernel
theorem dX7_count_93 : decode cX7_count 93 = .ok (.aload_n 0, 1) := by decide +kernel
theorem dX7_count_94 : decode cX7_count 94 = .ok (.getfield 10, 3) := by decide +kernel
theorem dX7_count_97 : decode cX7_count 97 = .ok (.invokevirtual 194, 3) := by decide +kernel
theorem dX7_count_100 : decode cX7_count 100 = .ok (.ireturn, 1) := by decide +kernel
theorem dX7_count_101 : decode cX7_count 101 = .ok (.aload_n 0, 1) := by decide +kernel
theorem dX7_count_102 : decode cX7_count 102 = .ok (.getfield 10, 3) := by decide +kernel
theorem dX7_count_105 : decode cX7_count 105 = .ok (.invokevirtual 197, 3) := by decide +kernel
theorem dX7_count_108 : decode cX7_count 108 = .ok (.ireturn, 1) := by decide +kernel
theorem dX7_count_109 : decode cX7_count 109 = .ok (.aload_n 0, 1) := by decide +kernel
theorem dX7_count_110 : decode cX7_count 110 = .ok (.getfield 19, 3) := by decide +kernel
theorem dX7_count_113 : decode cX7_count 113 = .ok (.getfield 200, 3) := by decide +kernel
theorem dX7_count_116 : decode cX7_count 116 = .ok (.ireturn, 1) := by decide +kernel
theorem dX7_count_117 : decode cX7_count 117 = .ok (.aload_n 0, 1) := by decide +kernel
theorem dX7_count_118 : decode cX7_count 118 = .ok (.getfield 26, 3) := by decide +kernel
theorem dX7_count_121 : decode cX7_count 121 = .ok (.getfield 203, 3) := by decide +kernel
theorem dX7_count_124 : decode cX7_count 124 = .ok (.ireturn, 1) := by decide +kernel
theorem dX7_count_125 : decode cX7_count 125 = .ok (.aload_n 0, 1) := by decide +kernel
theorem dX7_count_126 : decode cX7_count 126 = .ok (.iload_n 1, 1) := by decide +kernel
theorem dX7_count_127 : decode cX7_count 127 = .ok (.invokevirtual 206, 3) := by decide +kernel
theorem dX7_count_130 : decode cX7_count 130 = .ok (.ireturn, 1) := by decide +kernel
theorem dX7_settingOrAccount_0 : decode cX7_settingOrAccount 0 = .ok (.iload_n 1, 1) := by decide +kernel
theorem dX7_settingOrAccount_1 : decode cX7_settingOrAccount 1 = .ok (.bipush 10, 2) := by decide +kernel
theorem dX7_settingOrAccount_3 : decode cX7_settingOrAccount 3 = .ok (.if_icmp .lt 22, 3) := by decide +kernel
theorem dX7_settingOrAccount_6 : decode cX7_settingOrAccount 6 = .ok (.iload_n 1, 1) := by decide +kernel
theorem dX7_settingOrAccount_7 : decode cX7_settingOrAccount 7 = .ok (.bipush 18, 2) := by decide +kernel
theorem dX7_settingOrAccount_9 : decode cX7_settingOrAccount 9 = .ok (.if_icmp .ge 16, 3) := by decide +kernel
theorem dX7_settingOrAccount_12 : decode cX7_settingOrAccount 12 = .ok (.aload_n 0, 1) := by decide +kernel
theorem dX7_settingOrAccount_13 : decode cX7_settingOrAccount 13 = .ok (.getfield 10, 3) := by decide +kernel
theorem dX7_settingOrAccount_16 : decode cX7_settingOrAccount 16 = .ok (.getfield 90, 3) := by decide +kernel
theorem dX7_settingOrAccount_19 : decode cX7_settingOrAccount 19 = .ok (.iload_n 1, 1) := by decide +kernel
theorem dX7_settingOrAccount_20 : decode cX7_settingOrAccount 20 = .ok (.bipush 10, 2) := by decide +kernel
theorem dX7_settingOrAccount_22 : decode cX7_settingOrAccount 22 = .ok (.isub, 1) := by decide +kernel
theorem dX7_settingOrAccount_23 : decode cX7_settingOrAccount 23 = .ok (.iaload, 1) := by decide +kernel
theorem dX7_settingOrAccount_24 : decode cX7_settingOrAccount 24 = .ok (.ireturn, 1) := by decide +kernel
theorem dX7_settingOrAccount_25 : decode cX7_settingOrAccount 25 = .ok (.iload_n 1, 1) := by decide +kernel
theorem dX7_settingOrAccount_26 : decode cX7_settingOrAccount 26 = .ok (.bipush 20, 2) := by decide +kernel
theorem dX7_settingOrAccount_28 : decode cX7_settingOrAccount 28 = .ok (.if_icmp .lt 22, 3) := by decide +kernel
theorem dX7_settingOrAccount_31 : decode cX7_settingOrAccount 31 = .ok (.iload_n 1, 1) := by decide +kernel
theorem dX7_settingOrAccount_32 : decode cX7_settingOrAccount 32 = .ok (.bipush 29, 2) := by decide +kernel
theorem dX7_settingOrAccount_34 : decode cX7_settingOrAccount 34 = .ok (.if_icmp .ge 16, 3) := by decide +kernel
theorem dX7_settingOrAccount_37 : decode cX7_settingOrAccount 37 = .ok (.aload_n 0, 1) := by decide +kernel
theorem dX7_settingOrAccount_38 : decode cX7_settingOrAccount 38 = .ok (.getfield 10, 3) := by decide +kernel
theorem dX7_settingOrAccount_41 : decode cX7_settingOrAccount 41 = .ok (.getfield 209, 3) := by decide +kernel
theorem dX7_settingOrAccount_44 : decode cX7_settingOrAccount 44 = .ok (.iload_n 1, 1) := by decide +kernel
theorem dX7_settingOrAccount_45 : decode cX7_settingOrAccount 45 = .ok (.bipush 20, 2) := by decide +kernel
theorem dX7_settingOrAccount_47 : decode cX7_settingOrAccount 47 = .ok (.isub, 1) := by decide +kernel
theorem dX7_settingOrAccount_48 : decode cX7_settingOrAccount 48 = .ok (.iaload, 1) := by decide +kernel
theorem dX7_settingOrAccount_49 : decode cX7_settingOrAccount 49 = .ok (.ireturn, 1) := by decide +kernel
theorem dX7_settingOrAccount_50 : decode cX7_settingOrAccount 50 = .ok (.ldc 60, 2) := by decide +kernel
theorem dX7_settingOrAccount_52 : decode cX7_settingOrAccount 52 = .ok (.ireturn, 1) := by decide +kernel
set_option maxRecDepth 20000 in
theorem ggX7_undo_X2_restore : GoodIn wsX7_undo wsX2_restore := goodIn_r _ [9, 10, 11, 12, 13, 14, 15, 16, 17, 18, 19, 20, 21, 22, 23, 24, 25, 26, 27, 28, 29, 30, 31, 32, 33, 34, 35, 36, 37, 38, 39, 40, 41, 42, 43, 44, 45, 46, 47, 48, 49, 50, 51, 52, 53, 54, 55, 56, 63, 64, 65, 66, 67, 68, 69, 70, 71, 72, 73, 74, 75, 76, 77, 78, 79, 80, 81, 82, 83, 84, 85, 86, 87, 88, 89, 90, 91] (by decide +kernel) (by decide +kernel)
set_option maxRecDepth 20000 in
theorem gX7_undo_X2_restore : GoodIn wsX7_undo (wsV RX7 212 RX2 yX2_restore wsX2_restore) := goodIn_app (goodIn_of _ (by decide +kernel)) ggX7_undo_X2_restore
theorem dX7_undo_0 : decode cX7_undo 0 = .ok (.aload_n 0, 1) := by decide +kernel
theorem dX7_undo_1 : decode cX7_undo 1 = .ok (.getfield 19, 3) := by decide +kernel
theorem dX7_undo_4 : decode cX7_undo 4 = .ok (.getfield 200, 3) := by decide +kernel
theorem dX7_undo_7 : decode cX7_undo 7 = .ok (.iconst 1, 1) := by decide +kernel
theorem dX7_undo_8 : decode cX7_undo 8 = .ok (.if_icmp .ge 6, 3) := by decide +kernel
theorem dX7_undo_11 : decode cX7_undo 11 = .ok (.ldc 119, 2) := by decide +kernel
theorem dX7_undo_13 : decode cX7_undo 13 = .ok (.ireturn, 1) := by decide +kernel
theorem dX7_undo_14 : decode cX7_undo 14 = .ok (.aload_n 0, 1) := by decide +kernel
theorem dX7_undo_15 : decode cX7_undo 15 = .ok (.getfield 19, 3) := by decide +kernel
theorem dX7_undo_18 : decode cX7_undo 18 = .ok (.aload_n 0, 1) := by decide +kernel
theorem dX7_undo_19 : decode cX7_undo 19 = .ok (.getfield 10, 3) := by decide +kernel
theorem dX7_undo_22 : decode cX7_undo 22 = .ok (.invokevirtual 212, 3) := by decide +kernel
theorem dX7_undo_25 : decode cX7_undo 25 = .ok (.aload_n 0, 1) := by decide +kernel
theorem dX7_undo_26 : decode cX7_undo 26 = .ok (.getfield 19, 3) := by decide +kernel
theorem dX7_undo_29 : decode cX7_undo 29 = .ok (.getfield 200, 3) := by decide +kernel
theorem dX7_undo_32 : decode cX7_undo 32 = .ok (.ireturn, 1) := by decide +kernel
set_option maxRecDepth 20000 in
theorem ggX7_lend_X0_keyAt : GoodIn wsX7_lend wsX0_keyAt := goodIn_r _ [14, 15, 110, 111, 112, 113, 114, 115, 116, 117, 118] (by decide +kernel) (by decide +kernel)
set_option maxRecDepth 20000 in
theorem gX7_lend_X0_keyAt : GoodIn wsX7_lend (wsV RX7 215 RX0 yX0_keyAt wsX0_keyAt) := goodIn_app (goodIn_of _ (by decide +kernel)) ggX7_lend_X0_keyAt
set_option maxRecDepth 20000 in
theorem ggX7_lend_X0_hireAt : GoodIn wsX7_lend wsX0_hireAt := goodIn_r _ [19, 20, 21, 110, 111, 112, 113, 114, 115, 116, 117, 118] (by decide +kernel) (by decide +kernel)
set_option maxRecDepth 20000 in
theorem gX7_lend_X0_hireAt : GoodIn wsX7_lend (wsV RX7 132 RX0 yX0_hireAt wsX0_hireAt) := goodIn_app (goodIn_of _ (by decide +kernel)) ggX7_lend_X0_hireAt
set_option maxRecDepth 20000 in
theorem ggX7_lend_X1_lastPlannedDay : GoodIn wsX7_lend wsX1_lastPlannedDay := goodIn_r _ [26, 27, 28, 29, 30, 25, 31, 32, 33, 34, 35, 36, 37, 38, 39, 95, 96, 97, 98, 99, 100, 101, 102, 103, 104, 105, 106, 107, 108, 109] (by decide +kernel) (by decide +kernel)
set_option maxRecDepth 20000 in
theorem gX7_lend_X1_lastPlannedDay : GoodIn wsX7_lend (wsV RX7 219 RX1 yX1_lastPlannedDay wsX1_lastPlannedDay) := goodIn_app (goodIn_of _ (by decide +kernel)) ggX7_lend_X1_lastPlannedDay
set_option maxRecDepth 20000 in
theorem ggX7_lend_X2_save : GoodIn wsX7_lend wsX2_save := goodIn_r _ [44, 45, 46, 47, 48, 49, 43, 50, 51, 52, 53, 13, 54, 55, 56, 20, 57, 58, 59, 60, 61, 62, 63, 64, 21, 15, 65, 66, 67, 25, 68, 69, 70, 71, 72, 27, 38, 39, 73, 32, 33, 74, 75, 76, 77, 78, 79, 80, 81, 82, 83, 84, 85, 119, 120, 110, 111, 112, 113, 114, 115, 116, 117, 118, 95, 96, 97, 98, 99, 100, 101, 102, 103, 104, 105, 106, 107, 108, 109, 92, 93, 94] (by decide +kernel) (by decide +kernel)
set_option maxRecDepth 20000 in
theorem gX7_lend_X2_save : GoodIn wsX7_lend (wsV RX7 52 RX2 yX2_save wsX2_save) := goodIn_app (goodIn_of _ (by decide +kernel)) ggX7_lend_X2_save
theorem dX7_lend_0 : decode cX7_lend 0 = .ok (.aload_n 0, 1) := by decide +kernel
theorem dX7_lend_1 : decode cX7_lend 1 = .ok (.getfield 10, 3) := by decide +kernel
theorem dX7_lend_4 : decode cX7_lend 4 = .ok (.iload_n 1, 1) := by decide +kernel
theorem dX7_lend_5 : decode cX7_lend 5 = .ok (.invokevirtual 215, 3) := by decide +kernel
theorem dX7_lend_8 : decode cX7_lend 8 = .ok (.astore_n 3, 1) := by decide +kernel
theorem dX7_lend_9 : decode cX7_lend 9 = .ok (.aload_n 0, 1) := by decide +kernel
theorem dX7_lend_10 : decode cX7_lend 10 = .ok (.getfield 10, 3) := by decide +kernel
theorem dX7_lend_13 : decode cX7_lend 13 = .ok (.iload_n 2, 1) := by decide +kernel
theorem dX7_lend_14 : decode cX7_lend 14 = .ok (.invokevirtual 132, 3) := by decide +kernel
theorem dX7_lend_17 : decode cX7_lend 17 = .ok (.astore 4, 2) := by decide +kernel
theorem dX7_lend_19 : decode cX7_lend 19 = .ok (.aload_n 3, 1) := by decide +kernel
theorem dX7_lend_20 : decode cX7_lend 20 = .ok (.ifnull 8, 3) := by decide +kernel
theorem dX7_lend_23 : decode cX7_lend 23 = .ok (.aload 4, 2) := by decide +kernel
theorem dX7_lend_25 : decode cX7_lend 25 = .ok (.ifnonnull 6, 3) := by decide +kernel
theorem dX7_lend_28 : decode cX7_lend 28 = .ok (.ldc 60, 2) := by decide +kernel
theorem dX7_lend_30 : decode cX7_lend 30 = .ok (.ireturn, 1) := by decide +kernel
theorem dX7_lend_31 : decode cX7_lend 31 = .ok (.aload 4, 2) := by decide +kernel
theorem dX7_lend_33 : decode cX7_lend 33 = .ok (.invokevirtual 219, 3) := by decide +kernel
theorem dX7_lend_36 : decode cX7_lend 36 = .ok (.istore 5, 2) := by decide +kernel
theorem dX7_lend_38 : decode cX7_lend 38 = .ok (.aload_n 3, 1) := by decide +kernel
theorem dX7_lend_39 : decode cX7_lend 39 = .ok (.getfield 222, 3) := by decide +kernel
theorem dX7_lend_42 : decode cX7_lend 42 = .ok (.iconst (-1), 1) := by decide +kernel
theorem dX7_lend_43 : decode cX7_lend 43 = .ok (.if_icmp .ne 24, 3) := by decide +kernel
theorem dX7_lend_46 : decode cX7_lend 46 = .ok (.iload 5, 2) := by decide +kernel
theorem dX7_lend_48 : decode cX7_lend 48 = .ok (.iconst (-1), 1) := by decide +kernel
theorem dX7_lend_49 : decode cX7_lend 49 = .ok (.if_icmp .eq 18, 3) := by decide +kernel
theorem dX7_lend_52 : decode cX7_lend 52 = .ok (.aload 4, 2) := by decide +kernel
theorem dX7_lend_54 : decode cX7_lend 54 = .ok (.getfield 227, 3) := by decide +kernel
theorem dX7_lend_57 : decode cX7_lend 57 = .ok (.aload_n 3, 1) := by decide +kernel
theorem dX7_lend_58 : decode cX7_lend 58 = .ok (.getfield 228, 3) := by decide +kernel
theorem dX7_lend_61 : decode cX7_lend 61 = .ok (.ishr, 1) := by decide +kernel
theorem dX7_lend_62 : decode cX7_lend 62 = .ok (.iconst 1, 1) := by decide +kernel
theorem dX7_lend_63 : decode cX7_lend 63 = .ok (.iand, 1) := by decide +kernel
theorem dX7_lend_64 : decode cX7_lend 64 = .ok (.ifCond .ne 6, 3) := by decide +kernel
theorem dX7_lend_67 : decode cX7_lend 67 = .ok (.ldc 119, 2) := by decide +kernel
theorem dX7_lend_69 : decode cX7_lend 69 = .ok (.ireturn, 1) := by decide +kernel
theorem dX7_lend_70 : decode cX7_lend 70 = .ok (.aload_n 0, 1) := by decide +kernel
theorem dX7_lend_71 : decode cX7_lend 71 = .ok (.getfield 19, 3) := by decide +kernel
theorem dX7_lend_74 : decode cX7_lend 74 = .ok (.aload_n 0, 1) := by decide +kernel
theorem dX7_lend_75 : decode cX7_lend 75 = .ok (.getfield 10, 3) := by decide +kernel
theorem dX7_lend_78 : decode cX7_lend 78 = .ok (.invokevirtual 52, 3) := by decide +kernel
theorem dX7_lend_81 : decode cX7_lend 81 = .ok (.aload_n 3, 1) := by decide +kernel
theorem dX7_lend_82 : decode cX7_lend 82 = .ok (.iload_n 2, 1) := by decide +kernel
theorem dX7_lend_83 : decode cX7_lend 83 = .ok (.putfield 222, 3) := by decide +kernel
theorem dX7_lend_86 : decode cX7_lend 86 = .ok (.aload_n 3, 1) := by decide +kernel
theorem dX7_lend_87 : decode cX7_lend 87 = .ok (.iload 5, 2) := by decide +kernel
theorem dX7_lend_89 : decode cX7_lend 89 = .ok (.aload_n 0, 1) := by decide +kernel
theorem dX7_lend_90 : decode cX7_lend 90 = .ok (.getfield 10, 3) := by decide +kernel
theorem dX7_lend_93 : decode cX7_lend 93 = .ok (.getfield 90, 3) := by decide +kernel
theorem dX7_lend_96 : decode cX7_lend 96 = .ok (.bipush 7, 2) := by decide +kernel
theorem dX7_lend_98 : decode cX7_lend 98 = .ok (.iaload, 1) := by decide +kernel
theorem dX7_lend_99 : decode cX7_lend 99 = .ok (.iadd, 1) := by decide +kernel
theorem dX7_lend_100 : decode cX7_lend 100 = .ok (.putfield 231, 3) := by decide +kernel
theorem dX7_lend_103 : decode cX7_lend 103 = .ok (.aload_n 3, 1) := by decide +kernel
theorem dX7_lend_104 : decode cX7_lend 104 = .ok (.getfield 231, 3) := by decide +kernel
theorem dX7_lend_107 : decode cX7_lend 107 = .ok (.ireturn, 1) := by decide +kernel
set_option maxRecDepth 20000 in
theorem ggX7_bringBack_X0_keyAt : GoodIn wsX7_bringBack wsX0_keyAt := goodIn_r _ [11, 12, 84, 85, 86, 87, 88, 89, 90, 91, 92] (by decide +kernel) (by decide +kernel)
set_option maxRecDepth 20000 in
theorem gX7_bringBack_X0_keyAt : GoodIn wsX7_bringBack (wsV RX7 215 RX0 yX0_keyAt wsX0_keyAt) := goodIn_app (goodIn_of _ (by decide +kernel)) ggX7_bringBack_X0_keyAt
set_option maxRecDepth 20000 in
theorem ggX7_bringBack_X2_save : GoodIn wsX7_bringBack wsX2_save := goodIn_r _ [17, 18, 19, 20, 21, 22, 16, 23, 24, 25, 26, 10, 27, 28, 29, 30, 31, 32, 33, 34, 35, 36, 37, 38, 39, 12, 40, 41, 42, 43, 44, 45, 46, 47, 48, 49, 50, 51, 52, 53, 54, 55, 56, 57, 58, 59, 60, 61, 62, 63, 64, 65, 66, 93, 94, 84, 85, 86, 87, 88, 89, 90, 91, 92, 95, 96, 97, 98, 99, 100, 101, 102, 103, 104, 105, 106, 107, 108, 109, 81, 82, 83] (by decide +kernel) (by decide +kernel)
set_option maxRecDepth 20000 in
theorem gX7_bringBack_X2_save : GoodIn wsX7_bringBack (wsV RX7 52 RX2 yX2_save wsX2_save) := goodIn_app (goodIn_of _ (by decide +kernel)) ggX7_bringBack_X2_save
set_option maxRecDepth 20000 in
theorem ggX7_bringBack_X3_daysLate : GoodIn wsX7_bringBack wsX3_daysLate := goodIn_r _ [70, 65, 66, 71, 72, 73, 74, 81, 82, 83] (by decide +kernel) (by decide +kernel)
set_option maxRecDepth 20000 in
theorem gX7_bringBack_X3_daysLate : GoodIn wsX7_bringBack (wsV RX7 234 RX3 yX3_daysLate wsX3_daysLate) := goodIn_app (goodIn_of _ (by decide +kernel)) ggX7_bringBack_X3_daysLate
theorem dX7_bringBack_0 : decode cX7_bringBack 0 = .ok (.aload_n 0, 1) := by decide +kernel
theorem dX7_bringBack_1 : decode cX7_bringBack 1 = .ok (.getfield 10, 3) := by decide +kernel
theorem dX7_bringBack_4 : decode cX7_bringBack 4 = .ok (.iload_n 1, 1) := by decide +kernel
theorem dX7_bringBack_5 : decode cX7_bringBack 5 = .ok (.invokevirtual 215, 3) := by decide +kernel
theorem dX7_bringBack_8 : decode cX7_bringBack 8 = .ok (.astore_n 2, 1) := by decide +kernel
theorem dX7_bringBack_9 : decode cX7_bringBack 9 = .ok (.aload_n 2, 1) := by decide +kernel
theorem dX7_bringBack_10 : decode cX7_bringBack 10 = .ok (.ifnonnull 6, 3) := by decide +kernel
theorem dX7_bringBack_13 : decode cX7_bringBack 13 = .ok (.ldc 60, 2) := by decide +kernel
theorem dX7_bringBack_15 : decode cX7_bringBack 15 = .ok (.ireturn, 1) := by decide +kernel
theorem dX7_bringBack_16 : decode cX7_bringBack 16 = .ok (.aload_n 2, 1) := by decide +kernel
theorem dX7_bringBack_17 : decode cX7_bringBack 17 = .ok (.getfield 222, 3) := by decide +kernel
theorem dX7_bringBack_20 : decode cX7_bringBack 20 = .ok (.iconst (-1), 1) := by decide +kernel
theorem dX7_bringBack_21 : decode cX7_bringBack 21 = .ok (.if_icmp .ne 6, 3) := by decide +kernel
theorem dX7_bringBack_24 : decode cX7_bringBack 24 = .ok (.ldc 119, 2) := by decide +kernel
theorem dX7_bringBack_26 : decode cX7_bringBack 26 = .ok (.ireturn, 1) := by decide +kernel
theorem dX7_bringBack_27 : decode cX7_bringBack 27 = .ok (.aload_n 0, 1) := by decide +kernel
theorem dX7_bringBack_28 : decode cX7_bringBack 28 = .ok (.getfield 19, 3) := by decide +kernel
theorem dX7_bringBack_31 : decode cX7_bringBack 31 = .ok (.aload_n 0, 1) := by decide +kernel
theorem dX7_bringBack_32 : decode cX7_bringBack 32 = .ok (.getfield 10, 3) := by decide +kernel
theorem dX7_bringBack_35 : decode cX7_bringBack 35 = .ok (.invokevirtual 52, 3) := by decide +kernel
theorem dX7_bringBack_38 : decode cX7_bringBack 38 = .ok (.aload_n 2, 1) := by decide +kernel
theorem dX7_bringBack_39 : decode cX7_bringBack 39 = .ok (.aload_n 0, 1) := by decide +kernel
theorem dX7_bringBack_40 : decode cX7_bringBack 40 = .ok (.getfield 10, 3) := by decide +kernel
theorem dX7_bringBack_43 : decode cX7_bringBack 43 = .ok (.getfield 109, 3) := by decide +kernel
theorem dX7_bringBack_46 : decode cX7_bringBack 46 = .ok (.invokevirtual 234, 3) := by decide +kernel
theorem dX7_bringBack_49 : decode cX7_bringBack 49 = .ok (.istore_n 3, 1) := by decide +kernel
theorem dX7_bringBack_50 : decode cX7_bringBack 50 = .ok (.aload_n 2, 1) := by decide +kernel
theorem dX7_bringBack_51 : decode cX7_bringBack 51 = .ok (.iconst (-1), 1) := by decide +kernel
theorem dX7_bringBack_52 : decode cX7_bringBack 52 = .ok (.putfield 222, 3) := by decide +kernel
theorem dX7_bringBack_55 : decode cX7_bringBack 55 = .ok (.iload_n 3, 1) := by decide +kernel
theorem dX7_bringBack_56 : decode cX7_bringBack 56 = .ok (.ireturn, 1) := by decide +kernel
set_option maxRecDepth 20000 in
theorem ggX7_report_X0_hireOfSession : GoodIn wsX7_report wsX0_hireOfSession := goodIn_r _ [12, 13, 14, 15, 16, 11, 17, 18, 19, 129, 130, 131, 132, 133, 134, 135, 136, 137, 138, 139, 140, 141, 142, 143, 144, 145, 146, 147, 148, 149, 150, 151, 152] (by decide +kernel) (by decide +kernel)
set_option maxRecDepth 20000 in
theorem gX7_report_X0_hireOfSession : GoodIn wsX7_report (wsV RX7 144 RX0 yX0_hireOfSession wsX0_hireOfSession) := goodIn_app (goodIn_of _ (by decide +kernel)) ggX7_report_X0_hireOfSession
set_option maxRecDepth 20000 in
theorem ggX7_report_X1_stateOf : GoodIn wsX7_report wsX1_stateOf := goodIn_r _ [24, 25, 26, 129, 130, 131, 132, 133, 134, 135, 136, 137, 138, 139, 140, 141, 142, 143] (by decide +kernel) (by decide +kernel)
set_option maxRecDepth 20000 in
theorem gX7_report_X1_stateOf : GoodIn wsX7_report (wsV RX7 150 RX1 yX1_stateOf wsX1_stateOf) := goodIn_app (goodIn_of _ (by decide +kernel)) ggX7_report_X1_stateOf
set_option maxRecDepth 20000 in
theorem ggX7_report_X1_canHaveFault : GoodIn wsX7_report wsX1_canHaveFault := goodIn_r _ [30, 31, 129, 130, 131, 132, 133, 134, 135, 136, 137, 138, 139, 140, 141, 142, 143] (by decide +kernel) (by decide +kernel)
set_option maxRecDepth 20000 in
theorem gX7_report_X1_canHaveFault : GoodIn wsX7_report (wsV RX7 244 RX1 yX1_canHaveFault wsX1_canHaveFault) := goodIn_app (goodIn_of _ (by decide +kernel)) ggX7_report_X1_canHaveFault
set_option maxRecDepth 20000 in
theorem ggX7_report_X2_save : GoodIn wsX7_report wsX2_save := goodIn_r _ [36, 37, 38, 39, 40, 41, 35, 42, 43, 44, 45, 11, 46, 47, 48, 18, 49, 50, 51, 52, 53, 54, 55, 56, 19, 57, 58, 59, 60, 23, 61, 62, 31, 63, 64, 65, 66, 67, 68, 25, 26, 69, 70, 71, 72, 73, 74, 75, 76, 77, 78, 79, 80, 153, 154, 144, 145, 146, 147, 148, 149, 150, 151, 152, 129, 130, 131, 132, 133, 134, 135, 136, 137, 138, 139, 140, 141, 142, 143, 155, 156, 157] (by decide +kernel) (by decide +kernel)
set_option maxRecDepth 20000 in
theorem gX7_report_X2_save : GoodIn wsX7_report (wsV RX7 52 RX2 yX2_save wsX2_save) := goodIn_app (goodIn_of _ (by decide +kernel)) ggX7_report_X2_save
set_option maxRecDepth 20000 in
theorem ggX7_report_X1_costOfFault : GoodIn wsX7_report wsX1_costOfFault := goodIn_r _ [84, 31, 85, 86, 87, 88, 89, 90, 91, 92, 93, 94, 23, 95, 70, 96, 97, 98, 99, 100, 72, 129, 130, 131, 132, 133, 134, 135, 136, 137, 138, 139, 140, 141, 142, 143] (by decide +kernel) (by decide +kernel)
set_option maxRecDepth 20000 in
theorem gX7_report_X1_costOfFault : GoodIn wsX7_report (wsV RX7 250 RX1 yX1_costOfFault wsX1_costOfFault) := goodIn_app (goodIn_of _ (by decide +kernel)) ggX7_report_X1_costOfFault
set_option maxRecDepth 20000 in
theorem ggX7_report_X0_takeFromDeposit : GoodIn wsX7_report wsX0_takeFromDeposit := goodIn_r _ [104, 105, 106, 107, 108, 109, 54, 110, 111, 112, 113, 11, 114, 55, 115, 116, 117, 118, 48, 129, 130, 131, 132, 133, 134, 135, 136, 137, 138, 139, 140, 141, 142, 143, 144, 145, 146, 147, 148, 149, 150, 151, 152] (by decide +kernel) (by decide +kernel)
set_option maxRecDepth 20000 in
theorem gX7_report_X0_takeFromDeposit : GoodIn wsX7_report (wsV RX7 253 RX0 yX0_takeFromDeposit wsX0_takeFromDeposit) := goodIn_app (goodIn_of _ (by decide +kernel)) ggX7_report_X0_takeFromDeposit
set_option maxRecDepth 20000 in
theorem ggX7_report_X1_addFault : GoodIn wsX7_report wsX1_addFault := goodIn_r _ [122, 70, 72, 129, 130, 131, 132, 133, 134, 135, 136, 137, 138, 139, 140, 141, 142, 143] (by decide +kernel) (by decide +kernel)
set_option maxRecDepth 20000 in
theorem gX7_report_X1_addFault : GoodIn wsX7_report (wsV RX7 257 RX1 yX1_addFault wsX1_addFault) := goodIn_app (goodIn_of _ (by decide +kernel)) ggX7_report_X1_addFault
theorem dX7_report_0 : decode cX7_report 0 = .ok (.aload_n 0, 1) := by decide +kernel
theorem dX7_report_1 : decode cX7_report 1 = .ok (.getfield 10, 3) := by decide +kernel
theorem dX7_report_4 : decode cX7_report 4 = .ok (.iload_n 1, 1) := by decide +kernel
theorem dX7_report_5 : decode cX7_report 5 = .ok (.invokevirtual 144, 3) := by decide +kernel
theorem dX7_report_8 : decode cX7_report 8 = .ok (.astore_n 3, 1) := by decide +kernel
theorem dX7_report_9 : decode cX7_report 9 = .ok (.aload_n 3, 1) := by decide +kernel
theorem dX7_report_10 : decode cX7_report 10 = .ok (.ifnull 12, 3) := by decide +kernel
theorem dX7_report_13 : decode cX7_report 13 = .ok (.iload_n 2, 1) := by decide +kernel
theorem dX7_report_14 : decode cX7_report 14 = .ok (.ifCond .lt 8, 3) := by decide +kernel
theorem dX7_report_17 : decode cX7_report 17 = .ok (.iload_n 2, 1) := by decide +kernel
theorem dX7_report_18 : decode cX7_report 18 = .ok (.iconst 3, 1) := by decide +kernel
theorem dX7_report_19 : decode cX7_report 19 = .ok (.if_icmp .le 6, 3) := by decide +kernel
theorem dX7_report_22 : decode cX7_report 22 = .ok (.ldc 60, 2) := by decide +kernel
theorem dX7_report_24 : decode cX7_report 24 = .ok (.ireturn, 1) := by decide +kernel
theorem dX7_report_25 : decode cX7_report 25 = .ok (.aload_n 3, 1) := by decide +kernel
theorem dX7_report_26 : decode cX7_report 26 = .ok (.iload_n 1, 1) := by decide +kernel
theorem dX7_report_27 : decode cX7_report 27 = .ok (.bipush 20, 2) := by decide +kernel
theorem dX7_report_29 : decode cX7_report 29 = .ok (.irem, 1) := by decide +kernel
theorem dX7_report_30 : decode cX7_report 30 = .ok (.invokevirtual 150, 3) := by decide +kernel
theorem dX7_report_33 : decode cX7_report 33 = .ok (.iconst 1, 1) := by decide +kernel
theorem dX7_report_34 : decode cX7_report 34 = .ok (.if_icmp .ne 18, 3) := by decide +kernel
theorem dX7_report_37 : decode cX7_report 37 = .ok (.aload_n 3, 1) := by decide +kernel
theorem dX7_report_38 : decode cX7_report 38 = .ok (.getfield 240, 3) := by decide +kernel
theorem dX7_report_41 : decode cX7_report 41 = .ok (.ifCond .ne 11, 3) := by decide +kernel
theorem dX7_report_44 : decode cX7_report 44 = .ok (.aload_n 3, 1) := by decide +kernel
theorem dX7_report_45 : decode cX7_report 45 = .ok (.iload_n 2, 1) := by decide +kernel
theorem dX7_report_46 : decode cX7_report 46 = .ok (.invokevirtual 244, 3) := by decide +kernel
theorem dX7_report_49 : decode cX7_report 49 = .ok (.ifCond .ne 6, 3) := by decide +kernel
theorem dX7_report_52 : decode cX7_report 52 = .ok (.ldc 119, 2) := by decide +kernel
theorem dX7_report_54 : decode cX7_report 54 = .ok (.ireturn, 1) := by decide +kernel
theorem dX7_report_55 : decode cX7_report 55 = .ok (.aload_n 3, 1) := by decide +kernel
theorem dX7_report_56 : decode cX7_report 56 = .ok (.getfield 247, 3) := by decide +kernel
theorem dX7_report_59 : decode cX7_report 59 = .ok (.bipush 8, 2) := by decide +kernel
theorem dX7_report_61 : decode cX7_report 61 = .ok (.if_icmp .lt 6, 3) := by decide +kernel
theorem dX7_report_64 : decode cX7_report 64 = .ok (.ldc 51, 2) := by decide +kernel
theorem dX7_report_66 : decode cX7_report 66 = .ok (.ireturn, 1) := by decide +kernel
theorem dX7_report_67 : decode cX7_report 67 = .ok (.aload_n 0, 1) := by decide +kernel
theorem dX7_report_68 : decode cX7_report 68 = .ok (.getfield 19, 3) := by decide +kernel
theorem dX7_report_71 : decode cX7_report 71 = .ok (.aload_n 0, 1) := by decide +kernel
theorem dX7_report_72 : decode cX7_report 72 = .ok (.getfield 10, 3) := by decide +kernel
theorem dX7_report_75 : decode cX7_report 75 = .ok (.invokevirtual 52, 3) := by decide +kernel
theorem dX7_report_78 : decode cX7_report 78 = .ok (.aload_n 3, 1) := by decide +kernel
theorem dX7_report_79 : decode cX7_report 79 = .ok (.iload_n 2, 1) := by decide +kernel
theorem dX7_report_80 : decode cX7_report 80 = .ok (.invokevirtual 250, 3) := by decide +kernel
theorem dX7_report_83 : decode cX7_report 83 = .ok (.istore 4, 2) := by decide +kernel
theorem dX7_report_85 : decode cX7_report 85 = .ok (.aload_n 0, 1) := by decide +kernel
theorem dX7_report_86 : decode cX7_report 86 = .ok (.getfield 10, 3) := by decide +kernel
theorem dX7_report_89 : decode cX7_report 89 = .ok (.aload_n 3, 1) := by decide +kernel
theorem dX7_report_90 : decode cX7_report 90 = .ok (.iload 4, 2) := by decide +kernel
theorem dX7_report_92 : decode cX7_report 92 = .ok (.iconst 4, 1) := by decide +kernel
theorem dX7_report_93 : decode cX7_report 93 = .ok (.invokevirtual 253, 3) := by decide +kernel
theorem dX7_report_96 : decode cX7_report 96 = .ok (.istore 5, 2) := by decide +kernel
theorem dX7_report_98 : decode cX7_report 98 = .ok (.aload_n 3, 1) := by decide +kernel
theorem dX7_report_99 : decode cX7_report 99 = .ok (.iload_n 2, 1) := by decide +kernel
theorem dX7_report_100 : decode cX7_report 100 = .ok (.iload_n 1, 1) := by decide +kernel
theorem dX7_report_101 : decode cX7_report 101 = .ok (.iload 4, 2) := by decide +kernel
theorem dX7_report_103 : decode cX7_report 103 = .ok (.iload 5, 2) := by decide +kernel
theorem dX7_report_105 : decode cX7_report 105 = .ok (.invokevirtual 257, 3) := by decide +kernel
theorem dX7_report_108 : decode cX7_report 108 = .ok (.iload 4, 2) := by decide +kernel
theorem dX7_report_110 : decode cX7_report 110 = .ok (.ireturn, 1) := by decide +kernel
set_option maxRecDepth 20000 in
theorem ggX7_settle_X0_hireAt : GoodIn wsX7_settle wsX0_hireAt := goodIn_r _ [10, 11, 12, 118, 119, 120, 121, 122, 123, 124, 125, 126] (by decide +kernel) (by decide +kernel)
set_option maxRecDepth 20000 in
theorem gX7_settle_X0_hireAt : GoodIn wsX7_settle (wsV RX7 132 RX0 yX0_hireAt wsX0_hireAt) := goodIn_app (goodIn_of _ (by decide +kernel)) ggX7_settle_X0_hireAt
set_option maxRecDepth 20000 in
theorem ggX7_settle_X1_plannedSessions : GoodIn wsX7_settle wsX1_plannedSessions := goodIn_r _ [17, 18, 19, 20, 21, 22, 23, 24, 25, 26, 27, 103, 104, 105, 106, 107, 108, 109, 110, 111, 112, 113, 114, 115, 116, 117] (by decide +kernel) (by decide +kernel)
set_option maxRecDepth 20000 in
theorem gX7_settle_X1_plannedSessions : GoodIn wsX7_settle (wsV RX7 264 RX1 yX1_plannedSessions wsX1_plannedSessions) := goodIn_app (goodIn_of _ (by decide +kernel)) ggX7_settle_X1_plannedSessions
set_option maxRecDepth 20000 in
theorem ggX7_settle_X0_keysFor : GoodIn wsX7_settle wsX0_keysFor := goodIn_r _ [31, 32, 33, 118, 119, 120, 121, 122, 123, 124, 125, 126, 127, 128, 129] (by decide +kernel) (by decide +kernel)
set_option maxRecDepth 20000 in
theorem gX7_settle_X0_keysFor : GoodIn wsX7_settle (wsV RX7 136 RX0 yX0_keysFor wsX0_keysFor) := goodIn_app (goodIn_of _ (by decide +kernel)) ggX7_settle_X0_keysFor
set_option maxRecDepth 20000 in
theorem ggX7_settle_X2_save : GoodIn wsX7_settle wsX2_save := goodIn_r _ [38, 39, 40, 41, 42, 43, 37, 44, 45, 46, 47, 9, 48, 49, 50, 11, 51, 52, 53, 54, 55, 56, 57, 58, 12, 32, 59, 60, 61, 16, 62, 63, 64, 65, 66, 18, 67, 68, 69, 19, 20, 70, 71, 72, 73, 74, 75, 76, 77, 78, 79, 80, 81, 130, 131, 118, 119, 120, 121, 122, 123, 124, 125, 126, 103, 104, 105, 106, 107, 108, 109, 110, 111, 112, 113, 114, 115, 116, 117, 127, 128, 129] (by decide +kernel) (by decide +kernel)
set_option maxRecDepth 20000 in
theorem gX7_settle_X2_save : GoodIn wsX7_settle (wsV RX7 52 RX2 yX2_save wsX2_save) := goodIn_app (goodIn_of _ (by decide +kernel)) ggX7_settle_X2_save
set_option maxRecDepth 20000 in
theorem ggX7_settle_X0_giveDepositBack : GoodIn wsX7_settle wsX0_giveDepositBack := goodIn_r _ [85, 86, 87, 56, 88, 89, 90, 91, 9, 92, 58, 93, 94, 95, 96, 50, 103, 104, 105, 106, 107, 108, 109, 110, 111, 112, 113, 114, 115, 116, 117, 118, 119, 120, 121, 122, 123, 124, 125, 126] (by decide +kernel) (by decide +kernel)
set_option maxRecDepth 20000 in
theorem gX7_settle_X0_giveDepositBack : GoodIn wsX7_settle (wsV RX7 267 RX0 yX0_giveDepositBack wsX0_giveDepositBack) := goodIn_app (goodIn_of _ (by decide +kernel)) ggX7_settle_X0_giveDepositBack
theorem dX7_settle_0 : decode cX7_settle 0 = .ok (.aload_n 0, 1) := by decide +kernel
theorem dX7_settle_1 : decode cX7_settle 1 = .ok (.getfield 10, 3) := by decide +kernel
theorem dX7_settle_4 : decode cX7_settle 4 = .ok (.iload_n 1, 1) := by decide +kernel
theorem dX7_settle_5 : decode cX7_settle 5 = .ok (.invokevirtual 132, 3) := by decide +kernel
theorem dX7_settle_8 : decode cX7_settle 8 = .ok (.astore_n 2, 1) := by decide +kernel
theorem dX7_settle_9 : decode cX7_settle 9 = .ok (.aload_n 2, 1) := by decide +kernel
theorem dX7_settle_10 : decode cX7_settle 10 = .ok (.ifnonnull 6, 3) := by decide +kernel
theorem dX7_settle_13 : decode cX7_settle 13 = .ok (.ldc 60, 2) := by decide +kernel
theorem dX7_settle_15 : decode cX7_settle 15 = .ok (.ireturn, 1) := by decide +kernel
theorem dX7_settle_16 : decode cX7_settle 16 = .ok (.aload_n 2, 1) := by decide +kernel
theorem dX7_settle_17 : decode cX7_settle 17 = .ok (.getfield 240, 3) := by decide +kernel
theorem dX7_settle_20 : decode cX7_settle 20 = .ok (.ifCond .ne 21, 3) := by decide +kernel
theorem dX7_settle_23 : decode cX7_settle 23 = .ok (.aload_n 2, 1) := by decide +kernel
theorem dX7_settle_24 : decode cX7_settle 24 = .ok (.invokevirtual 264, 3) := by decide +kernel
theorem dX7_settle_27 : decode cX7_settle 27 = .ok (.ifCond .gt 14, 3) := by decide +kernel
theorem dX7_settle_30 : decode cX7_settle 30 = .ok (.aload_n 0, 1) := by decide +kernel
theorem dX7_settle_31 : decode cX7_settle 31 = .ok (.getfield 10, 3) := by decide +kernel
theorem dX7_settle_34 : decode cX7_settle 34 = .ok (.iload_n 1, 1) := by decide +kernel
theorem dX7_settle_35 : decode cX7_settle 35 = .ok (.invokevirtual 136, 3) := by decide +kernel
theorem dX7_settle_38 : decode cX7_settle 38 = .ok (.ifCond .le 6, 3) := by decide +kernel
theorem dX7_settle_41 : decode cX7_settle 41 = .ok (.ldc 119, 2) := by decide +kernel
theorem dX7_settle_43 : decode cX7_settle 43 = .ok (.ireturn, 1) := by decide +kernel
theorem dX7_settle_44 : decode cX7_settle 44 = .ok (.aload_n 0, 1) := by decide +kernel
theorem dX7_settle_45 : decode cX7_settle 45 = .ok (.getfield 19, 3) := by decide +kernel
theorem dX7_settle_48 : decode cX7_settle 48 = .ok (.aload_n 0, 1) := by decide +kernel
theorem dX7_settle_49 : decode cX7_settle 49 = .ok (.getfield 10, 3) := by decide +kernel
theorem dX7_settle_52 : decode cX7_settle 52 = .ok (.invokevirtual 52, 3) := by decide +kernel
theorem dX7_settle_55 : decode cX7_settle 55 = .ok (.aload_n 0, 1) := by decide +kernel
theorem dX7_settle_56 : decode cX7_settle 56 = .ok (.getfield 10, 3) := by decide +kernel
theorem dX7_settle_59 : decode cX7_settle 59 = .ok (.aload_n 2, 1) := by decide +kernel
theorem dX7_settle_60 : decode cX7_settle 60 = .ok (.invokevirtual 267, 3) := by decide +kernel
theorem dX7_settle_63 : decode cX7_settle 63 = .ok (.ireturn, 1) := by decide +kernel
theorem dX7_areRooms_0 : decode cX7_areRooms 0 = .ok (.iload_n 0, 1) := by decide +kernel
theorem dX7_areRooms_1 : decode cX7_areRooms 1 = .ok (.iconst 1, 1) := by decide +kernel
theorem dX7_areRooms_2 : decode cX7_areRooms 2 = .ok (.if_icmp .lt 13, 3) := by decide +kernel
theorem dX7_areRooms_5 : decode cX7_areRooms 5 = .ok (.iload_n 0, 1) := by decide +kernel
theorem dX7_areRooms_6 : decode cX7_areRooms 6 = .ok (.bipush 7, 2) := by decide +kernel
theorem dX7_areRooms_8 : decode cX7_areRooms 8 = .ok (.if_icmp .gt 7, 3) := by decide +kernel
theorem dX7_areRooms_11 : decode cX7_areRooms 11 = .ok (.iconst 1, 1) := by decide +kernel
theorem dX7_areRooms_12 : decode cX7_areRooms 12 = .ok (.goto 4, 3) := by decide +kernel
theorem dX7_areRooms_15 : decode cX7_areRooms 15 = .ok (.iconst 0, 1) := by decide +kernel
theorem dX7_areRooms_16 : decode cX7_areRooms 16 = .ok (.ireturn, 1) := by decide +kernel
theorem dX7_hoursMask_0 : decode cX7_hoursMask 0 = .ok (.iload_n 0, 1) := by decide +kernel
theorem dX7_hoursMask_1 : decode cX7_hoursMask 1 = .ok (.iconst 0, 1) := by decide +kernel
theorem dX7_hoursMask_2 : decode cX7_hoursMask 2 = .ok (.invokestatic 171, 3) := by decide +kernel
theorem dX7_hoursMask_5 : decode cX7_hoursMask 5 = .ok (.bipush 24, 2) := by decide +kernel
theorem dX7_hoursMask_7 : decode cX7_hoursMask 7 = .ok (.invokestatic 294, 3) := by decide +kernel
theorem dX7_hoursMask_10 : decode cX7_hoursMask 10 = .ok (.istore_n 2, 1) := by decide +kernel
theorem dX7_hoursMask_11 : decode cX7_hoursMask 11 = .ok (.iload_n 1, 1) := by decide +kernel
theorem dX7_hoursMask_12 : decode cX7_hoursMask 12 = .ok (.iload_n 2, 1) := by decide +kernel
theorem dX7_hoursMask_13 : decode cX7_hoursMask 13 = .ok (.invokestatic 171, 3) := by decide +kernel
theorem dX7_hoursMask_16 : decode cX7_hoursMask 16 = .ok (.bipush 24, 2) := by decide +kernel
theorem dX7_hoursMask_18 : decode cX7_hoursMask 18 = .ok (.invokestatic 294, 3) := by decide +kernel
theorem dX7_hoursMask_21 : decode cX7_hoursMask 21 = .ok (.istore_n 3, 1) := by decide +kernel
theorem dX7_hoursMask_22 : decode cX7_hoursMask 22 = .ok (.iconst 1, 1) := by decide +kernel
theorem dX7_hoursMask_23 : decode cX7_hoursMask 23 = .ok (.iload_n 3, 1) := by decide +kernel
theorem dX7_hoursMask_24 : decode cX7_hoursMask 24 = .ok (.ishl, 1) := by decide +kernel
theorem dX7_hoursMask_25 : decode cX7_hoursMask 25 = .ok (.iconst 1, 1) := by decide +kernel
theorem dX7_hoursMask_26 : decode cX7_hoursMask 26 = .ok (.iload_n 2, 1) := by decide +kernel
theorem dX7_hoursMask_27 : decode cX7_hoursMask 27 = .ok (.ishl, 1) := by decide +kernel
theorem dX7_hoursMask_28 : decode cX7_hoursMask 28 = .ok (.isub, 1) := by decide +kernel
theorem dX7_hoursMask_29 : decode cX7_hoursMask 29 = .ok (.ireturn, 1) := by decide +kernel
theorem dX7_discountOf_0 : decode cX7_discountOf 0 = .ok (.iload_n 0, 1) := by decide +kernel
theorem dX7_discountOf_1 : decode cX7_discountOf 1 = .ok (.iconst 4, 1) := by decide +kernel
theorem dX7_discountOf_2 : decode cX7_discountOf 2 = .ok (.if_icmp .ge 5, 3) := by decide +kernel
theorem dX7_discountOf_5 : decode cX7_discountOf 5 = .ok (.iconst 0, 1) := by decide +kernel
theorem dX7_discountOf_6 : decode cX7_discountOf 6 = .ok (.ireturn, 1) := by decide +kernel
theorem dX7_discountOf_7 : decode cX7_discountOf 7 = .ok (.iload_n 0, 1) := by decide +kernel
theorem dX7_discountOf_8 : decode cX7_discountOf 8 = .ok (.bipush 10, 2) := by decide +kernel
theorem dX7_discountOf_10 : decode cX7_discountOf 10 = .ok (.if_icmp .ge 8, 3) := by decide +kernel
theorem dX7_discountOf_13 : decode cX7_discountOf 13 = .ok (.bipush 10, 2) := by decide +kernel
theorem dX7_discountOf_15 : decode cX7_discountOf 15 = .ok (.goto 5, 3) := by decide +kernel
theorem dX7_discountOf_18 : decode cX7_discountOf 18 = .ok (.bipush 20, 2) := by decide +kernel
theorem dX7_discountOf_20 : decode cX7_discountOf 20 = .ok (.ireturn, 1) := by decide +kernel
theorem dJ6_bitCount_0f7a4_0 : decode cJ6_bitCount_0f7a4 0 = .ok (.iload_n 0, 1) := by decide +kernel
theorem dJ6_bitCount_0f7a4_1 : decode cJ6_bitCount_0f7a4 1 = .ok (.iload_n 0, 1) := by decide +kernel
theorem dJ6_bitCount_0f7a4_2 : decode cJ6_bitCount_0f7a4 2 = .ok (.iconst 1, 1) := by decide +kernel
theorem dJ6_bitCount_0f7a4_3 : decode cJ6_bitCount_0f7a4 3 = .ok (.iushr, 1) := by decide +kernel
theorem dJ6_bitCount_0f7a4_4 : decode cJ6_bitCount_0f7a4 4 = .ok (.ldc_w 265, 3) := by decide +kernel
theorem dJ6_bitCount_0f7a4_7 : decode cJ6_bitCount_0f7a4 7 = .ok (.iand, 1) := by decide +kernel
theorem dJ6_bitCount_0f7a4_8 : decode cJ6_bitCount_0f7a4 8 = .ok (.isub, 1) := by decide +kernel
theorem dJ6_bitCount_0f7a4_9 : decode cJ6_bitCount_0f7a4 9 = .ok (.istore_n 0, 1) := by decide +kernel
theorem dJ6_bitCount_0f7a4_10 : decode cJ6_bitCount_0f7a4 10 = .ok (.iload_n 0, 1) := by decide +kernel
theorem dJ6_bitCount_0f7a4_11 : decode cJ6_bitCount_0f7a4 11 = .ok (.ldc_w 266, 3) := by decide +kernel
theorem dJ6_bitCount_0f7a4_14 : decode cJ6_bitCount_0f7a4 14 = .ok (.iand, 1) := by decide +kernel
theorem dJ6_bitCount_0f7a4_15 : decode cJ6_bitCount_0f7a4 15 = .ok (.iload_n 0, 1) := by decide +kernel
theorem dJ6_bitCount_0f7a4_16 : decode cJ6_bitCount_0f7a4 16 = .ok (.iconst 2, 1) := by decide +kernel
theorem dJ6_bitCount_0f7a4_17 : decode cJ6_bitCount_0f7a4 17 = .ok (.iushr, 1) := by decide +kernel
theorem dJ6_bitCount_0f7a4_18 : decode cJ6_bitCount_0f7a4 18 = .ok (.ldc_w 266, 3) := by decide +kernel
theorem dJ6_bitCount_0f7a4_21 : decode cJ6_bitCount_0f7a4 21 = .ok (.iand, 1) := by decide +kernel
theorem dJ6_bitCount_0f7a4_22 : decode cJ6_bitCount_0f7a4 22 = .ok (.iadd, 1) := by decide +kernel
theorem dJ6_bitCount_0f7a4_23 : decode cJ6_bitCount_0f7a4 23 = .ok (.istore_n 0, 1) := by decide +kernel
theorem dJ6_bitCount_0f7a4_24 : decode cJ6_bitCount_0f7a4 24 = .ok (.iload_n 0, 1) := by decide +kernel
theorem dJ6_bitCount_0f7a4_25 : decode cJ6_bitCount_0f7a4 25 = .ok (.iload_n 0, 1) := by decide +kernel
theorem dJ6_bitCount_0f7a4_26 : decode cJ6_bitCount_0f7a4 26 = .ok (.iconst 4, 1) := by decide +kernel
theorem dJ6_bitCount_0f7a4_27 : decode cJ6_bitCount_0f7a4 27 = .ok (.iushr, 1) := by decide +kernel
theorem dJ6_bitCount_0f7a4_28 : decode cJ6_bitCount_0f7a4 28 = .ok (.iadd, 1) := by decide +kernel
theorem dJ6_bitCount_0f7a4_29 : decode cJ6_bitCount_0f7a4 29 = .ok (.ldc_w 267, 3) := by decide +kernel
theorem dJ6_bitCount_0f7a4_32 : decode cJ6_bitCount_0f7a4 32 = .ok (.iand, 1) := by decide +kernel
theorem dJ6_bitCount_0f7a4_33 : decode cJ6_bitCount_0f7a4 33 = .ok (.istore_n 0, 1) := by decide +kernel
theorem dJ6_bitCount_0f7a4_34 : decode cJ6_bitCount_0f7a4 34 = .ok (.iload_n 0, 1) := by decide +kernel
theorem dJ6_bitCount_0f7a4_35 : decode cJ6_bitCount_0f7a4 35 = .ok (.iload_n 0, 1) := by decide +kernel
theorem dJ6_bitCount_0f7a4_36 : decode cJ6_bitCount_0f7a4 36 = .ok (.bipush 8, 2) := by decide +kernel
theorem dJ6_bitCount_0f7a4_38 : decode cJ6_bitCount_0f7a4 38 = .ok (.iushr, 1) := by decide +kernel
theorem dJ6_bitCount_0f7a4_39 : decode cJ6_bitCount_0f7a4 39 = .ok (.iadd, 1) := by decide +kernel
theorem dJ6_bitCount_0f7a4_40 : decode cJ6_bitCount_0f7a4 40 = .ok (.istore_n 0, 1) := by decide +kernel
theorem dJ6_bitCount_0f7a4_41 : decode cJ6_bitCount_0f7a4 41 = .ok (.iload_n 0, 1) := by decide +kernel
theorem dJ6_bitCount_0f7a4_42 : decode cJ6_bitCount_0f7a4 42 = .ok (.iload_n 0, 1) := by decide +kernel
theorem dJ6_bitCount_0f7a4_43 : decode cJ6_bitCount_0f7a4 43 = .ok (.bipush 16, 2) := by decide +kernel
theorem dJ6_bitCount_0f7a4_45 : decode cJ6_bitCount_0f7a4 45 = .ok (.iushr, 1) := by decide +kernel
theorem dJ6_bitCount_0f7a4_46 : decode cJ6_bitCount_0f7a4 46 = .ok (.iadd, 1) := by decide +kernel
theorem dJ6_bitCount_0f7a4_47 : decode cJ6_bitCount_0f7a4 47 = .ok (.istore_n 0, 1) := by decide +kernel
theorem dJ6_bitCount_0f7a4_48 : decode cJ6_bitCount_0f7a4 48 = .ok (.iload_n 0, 1) := by decide +kernel
theorem dJ6_bitCount_0f7a4_49 : decode cJ6_bitCount_0f7a4 49 = .ok (.bipush 63, 2) := by decide +kernel
theorem dJ6_bitCount_0f7a4_51 : decode cJ6_bitCount_0f7a4 51 = .ok (.iand, 1) := by decide +kernel
theorem dJ6_bitCount_0f7a4_52 : decode cJ6_bitCount_0f7a4 52 = .ok (.ireturn, 1) := by decide +kernel
theorem dJ9_max_7cf53_0 : decode cJ9_max_7cf53 0 = .ok (.iload_n 0, 1) := by decide +kernel
theorem dJ9_max_7cf53_1 : decode cJ9_max_7cf53 1 = .ok (.iload_n 1, 1) := by decide +kernel
theorem dJ9_max_7cf53_2 : decode cJ9_max_7cf53 2 = .ok (.if_icmp .lt 7, 3) := by decide +kernel
theorem dJ9_max_7cf53_5 : decode cJ9_max_7cf53 5 = .ok (.iload_n 0, 1) := by decide +kernel
theorem dJ9_max_7cf53_6 : decode cJ9_max_7cf53 6 = .ok (.goto 4, 3) := by decide +kernel
theorem dJ9_max_7cf53_9 : decode cJ9_max_7cf53 9 = .ok (.iload_n 1, 1) := by decide +kernel
theorem dJ9_max_7cf53_10 : decode cJ9_max_7cf53 10 = .ok (.ireturn, 1) := by decide +kernel
theorem dJ9_min_7cf53_0 : decode cJ9_min_7cf53 0 = .ok (.iload_n 0, 1) := by decide +kernel
theorem dJ9_min_7cf53_1 : decode cJ9_min_7cf53 1 = .ok (.iload_n 1, 1) := by decide +kernel
theorem dJ9_min_7cf53_2 : decode cJ9_min_7cf53 2 = .ok (.if_icmp .gt 7, 3) := by decide +kernel
theorem dJ9_min_7cf53_5 : decode cJ9_min_7cf53 5 = .ok (.iload_n 0, 1) := by decide +kernel
theorem dJ9_min_7cf53_6 : decode cJ9_min_7cf53 6 = .ok (.goto 4, 3) := by decide +kernel
theorem dJ9_min_7cf53_9 : decode cJ9_min_7cf53 9 = .ok (.iload_n 1, 1) := by decide +kernel
theorem dJ9_min_7cf53_10 : decode cJ9_min_7cf53 10 = .ok (.ireturn, 1) := by decide +kernel
theorem dL_cell_0 : decode cL_cell 0 = .ok (.iload_n 1, 1) := by decide +kernel
theorem dL_cell_1 : decode cL_cell 1 = .ok (.aload_n 0, 1) := by decide +kernel
theorem dL_cell_2 : decode cL_cell 2 = .ok (.arraylength, 1) := by decide +kernel
theorem dL_cell_3 : decode cL_cell 3 = .ok (.if_icmp .ge 9, 3) := by decide +kernel
theorem dL_cell_6 : decode cL_cell 6 = .ok (.aload_n 0, 1) := by decide +kernel
theorem dL_cell_7 : decode cL_cell 7 = .ok (.iload_n 1, 1) := by decide +kernel
theorem dL_cell_8 : decode cL_cell 8 = .ok (.iaload, 1) := by decide +kernel
theorem dL_cell_9 : decode cL_cell 9 = .ok (.goto 11, 3) := by decide +kernel
theorem dL_cell_12 : decode cL_cell 12 = .ok (.ldc 7, 2) := by decide +kernel
theorem dL_cell_14 : decode cL_cell 14 = .ok (.iload_n 1, 1) := by decide +kernel
theorem dL_cell_15 : decode cL_cell 15 = .ok (.sipush 569, 3) := by decide +kernel
theorem dL_cell_18 : decode cL_cell 18 = .ok (.iadd, 1) := by decide +kernel
theorem dL_cell_19 : decode cL_cell 19 = .ok (.imul, 1) := by decide +kernel
theorem dL_cell_20 : decode cL_cell 20 = .ok (.ireturn, 1) := by decide +kernel
theorem dL_up_0 : decode cL_up 0 = .ok (.iload_n 0, 1) := by decide +kernel
theorem dL_up_1 : decode cL_up 1 = .ok (.ldc 8, 2) := by decide +kernel
theorem dL_up_3 : decode cL_up 3 = .ok (.iand, 1) := by decide +kernel
theorem dL_up_4 : decode cL_up 4 = .ok (.iload_n 1, 1) := by decide +kernel
theorem dL_up_5 : decode cL_up 5 = .ok (.irem, 1) := by decide +kernel
theorem dL_up_6 : decode cL_up 6 = .ok (.ireturn, 1) := by decide +kernel
