theorem dX0_takeFromDeposit_66 : decode cX0_takeFromDeposit 66 = .ok (.invokevirtual 185, 3) := by decide +kernel
theorem dX0_takeFromDeposit_69 : decode cX0_takeFromDeposit 69 = .ok (.iload 4, 2) := by decide +kernel
theorem dX0_takeFromDeposit_71 : decode cX0_takeFromDeposit 71 = .ok (.ireturn, 1) := by decide +kernel
set_option maxRecDepth 20000 in
theorem ggX0_giveDepositBack_X0_credit : GoodIn wsX0_giveDepositBack wsX0_credit := goodIn_r _ [9, 10, 3, 11, 12, 13, 8, 14, 15, 31, 32, 33, 34, 35, 36, 37, 38, 39] (by decide +kernel) (by decide +kernel)
set_option maxRecDepth 20000 in
theorem gX0_giveDepositBack_X0_credit : GoodIn wsX0_giveDepositBack (wsV RX0 202 RX0 yX0_credit wsX0_credit) := goodIn_app (goodIn_of _ (by decide +kernel)) ggX0_giveDepositBack_X0_credit
theorem dX0_giveDepositBack_0 : decode cX0_giveDepositBack 0 = .ok (.aload_n 1, 1) := by decide +kernel
theorem dX0_giveDepositBack_1 : decode cX0_giveDepositBack 1 = .ok (.getfield 192, 3) := by decide +kernel
theorem dX0_giveDepositBack_4 : decode cX0_giveDepositBack 4 = .ok (.istore_n 2, 1) := by decide +kernel
theorem dX0_giveDepositBack_5 : decode cX0_giveDepositBack 5 = .ok (.aload_n 1, 1) := by decide +kernel
theorem dX0_giveDepositBack_6 : decode cX0_giveDepositBack 6 = .ok (.iconst 0, 1) := by decide +kernel
theorem dX0_giveDepositBack_7 : decode cX0_giveDepositBack 7 = .ok (.putfield 192, 3) := by decide +kernel
theorem dX0_giveDepositBack_10 : decode cX0_giveDepositBack 10 = .ok (.aload_n 1, 1) := by decide +kernel
theorem dX0_giveDepositBack_11 : decode cX0_giveDepositBack 11 = .ok (.iconst 1, 1) := by decide +kernel
theorem dX0_giveDepositBack_12 : decode cX0_giveDepositBack 12 = .ok (.putfield 198, 3) := by decide +kernel
theorem dX0_giveDepositBack_15 : decode cX0_giveDepositBack 15 = .ok (.aload_n 0, 1) := by decide +kernel
theorem dX0_giveDepositBack_16 : decode cX0_giveDepositBack 16 = .ok (.getfield 23, 3) := by decide +kernel
theorem dX0_giveDepositBack_19 : decode cX0_giveDepositBack 19 = .ok (.iconst 3, 1) := by decide +kernel
theorem dX0_giveDepositBack_20 : decode cX0_giveDepositBack 20 = .ok (.dup2, 1) := by decide +kernel
theorem dX0_giveDepositBack_21 : decode cX0_giveDepositBack 21 = .ok (.iaload, 1) := by decide +kernel
theorem dX0_giveDepositBack_22 : decode cX0_giveDepositBack 22 = .ok (.iload_n 2, 1) := by decide +kernel
theorem dX0_giveDepositBack_23 : decode cX0_giveDepositBack 23 = .ok (.isub, 1) := by decide +kernel
theorem dX0_giveDepositBack_24 : decode cX0_giveDepositBack 24 = .ok (.iastore, 1) := by decide +kernel
theorem dX0_giveDepositBack_25 : decode cX0_giveDepositBack 25 = .ok (.aload_n 0, 1) := by decide +kernel
theorem dX0_giveDepositBack_26 : decode cX0_giveDepositBack 26 = .ok (.aload_n 1, 1) := by decide +kernel
theorem dX0_giveDepositBack_27 : decode cX0_giveDepositBack 27 = .ok (.getfield 78, 3) := by decide +kernel
theorem dX0_giveDepositBack_30 : decode cX0_giveDepositBack 30 = .ok (.iload_n 2, 1) := by decide +kernel
theorem dX0_giveDepositBack_31 : decode cX0_giveDepositBack 31 = .ok (.bipush 6, 2) := by decide +kernel
theorem dX0_giveDepositBack_33 : decode cX0_giveDepositBack 33 = .ok (.invokevirtual 202, 3) := by decide +kernel
theorem dX0_giveDepositBack_36 : decode cX0_giveDepositBack 36 = .ok (.iload_n 2, 1) := by decide +kernel
theorem dX0_giveDepositBack_37 : decode cX0_giveDepositBack 37 = .ok (.ireturn, 1) := by decide +kernel
set_option maxRecDepth 20000 in
theorem ggX0_passDay_X1_indexOn : GoodIn wsX0_passDay wsX1_indexOn := goodIn_r _ [8, 9, 10, 11, 12, 66, 67, 68, 69, 70, 71, 72, 73, 74, 75, 76, 77, 78, 79, 80] (by decide +kernel) (by decide +kernel)
set_option maxRecDepth 20000 in
theorem gX0_passDay_X1_indexOn : GoodIn wsX0_passDay (wsV RX0 170 RX1 yX1_indexOn wsX1_indexOn) := goodIn_app (goodIn_of _ (by decide +kernel)) ggX0_passDay_X1_indexOn
set_option maxRecDepth 20000 in
theorem ggX0_passDay_X0_takeLateFees : GoodIn wsX0_passDay wsX0_takeLateFees := goodIn_r _ [17, 18, 19, 2, 20, 21, 22, 23, 16, 24, 25, 1, 26, 27, 28, 29, 30, 31, 32, 33, 34, 35, 36, 37, 38, 39, 40, 41, 42, 43, 44, 45, 46, 47, 48, 49, 50, 51, 52, 53, 54, 55, 56, 57, 58, 59, 60, 61, 62, 63, 64, 65, 81, 82, 83, 66, 67, 68, 69, 70, 71, 72, 73, 74, 75, 76, 77, 78, 79, 80] (by decide +kernel) (by decide +kernel)
set_option maxRecDepth 20000 in
theorem gX0_passDay_X0_takeLateFees : GoodIn wsX0_passDay (wsV RX0 208 RX0 yX0_takeLateFees wsX0_takeLateFees) := goodIn_app (goodIn_of _ (by decide +kernel)) ggX0_passDay_X0_takeLateFees
theorem dX0_passDay_0 : decode cX0_passDay 0 = .ok (.iconst 0, 1) := by decide +kernel
theorem dX0_passDay_1 : decode cX0_passDay 1 = .ok (.istore_n 1, 1) := by decide +kernel
theorem dX0_passDay_2 : decode cX0_passDay 2 = .ok (.aload_n 0, 1) := by decide +kernel
theorem dX0_passDay_3 : decode cX0_passDay 3 = .ok (.getfield 34, 3) := by decide +kernel
theorem dX0_passDay_6 : decode cX0_passDay 6 = .ok (.astore_n 2, 1) := by decide +kernel
theorem dX0_passDay_7 : decode cX0_passDay 7 = .ok (.aload_n 2, 1) := by decide +kernel
theorem dX0_passDay_8 : decode cX0_passDay 8 = .ok (.arraylength, 1) := by decide +kernel
theorem dX0_passDay_9 : decode cX0_passDay 9 = .ok (.istore_n 3, 1) := by decide +kernel
theorem dX0_passDay_10 : decode cX0_passDay 10 = .ok (.iconst 0, 1) := by decide +kernel
theorem dX0_passDay_11 : decode cX0_passDay 11 = .ok (.istore 4, 2) := by decide +kernel
theorem dX0_passDay_13 : decode cX0_passDay 13 = .ok (.iload 4, 2) := by decide +kernel
theorem dX0_passDay_15 : decode cX0_passDay 15 = .ok (.iload_n 3, 1) := by decide +kernel
theorem dX0_passDay_16 : decode cX0_passDay 16 = .ok (.if_icmp .ge 49, 3) := by decide +kernel
theorem dX0_passDay_19 : decode cX0_passDay 19 = .ok (.aload_n 2, 1) := by decide +kernel
theorem dX0_passDay_20 : decode cX0_passDay 20 = .ok (.iload 4, 2) := by decide +kernel
theorem dX0_passDay_22 : decode cX0_passDay 22 = .ok (.aaload, 1) := by decide +kernel
theorem dX0_passDay_23 : decode cX0_passDay 23 = .ok (.astore 5, 2) := by decide +kernel
theorem dX0_passDay_25 : decode cX0_passDay 25 = .ok (.aload 5, 2) := by decide +kernel
theorem dX0_passDay_27 : decode cX0_passDay 27 = .ok (.aload_n 0, 1) := by decide +kernel
theorem dX0_passDay_28 : decode cX0_passDay 28 = .ok (.getfield 48, 3) := by decide +kernel
theorem dX0_passDay_31 : decode cX0_passDay 31 = .ok (.invokevirtual 170, 3) := by decide +kernel
theorem dX0_passDay_34 : decode cX0_passDay 34 = .ok (.istore 6, 2) := by decide +kernel
theorem dX0_passDay_36 : decode cX0_passDay 36 = .ok (.iload 6, 2) := by decide +kernel
theorem dX0_passDay_38 : decode cX0_passDay 38 = .ok (.iconst (-1), 1) := by decide +kernel
theorem dX0_passDay_39 : decode cX0_passDay 39 = .ok (.if_icmp .eq 20, 3) := by decide +kernel
theorem dX0_passDay_42 : decode cX0_passDay 42 = .ok (.aload 5, 2) := by decide +kernel
theorem dX0_passDay_44 : decode cX0_passDay 44 = .ok (.dup, 1) := by decide +kernel
theorem dX0_passDay_45 : decode cX0_passDay 45 = .ok (.getfield 205, 3) := by decide +kernel
theorem dX0_passDay_48 : decode cX0_passDay 48 = .ok (.iconst 1, 1) := by decide +kernel
theorem dX0_passDay_49 : decode cX0_passDay 49 = .ok (.iload 6, 2) := by decide +kernel
theorem dX0_passDay_51 : decode cX0_passDay 51 = .ok (.ishl, 1) := by decide +kernel
theorem dX0_passDay_52 : decode cX0_passDay 52 = .ok (.ior, 1) := by decide +kernel
theorem dX0_passDay_53 : decode cX0_passDay 53 = .ok (.putfield 205, 3) := by decide +kernel
theorem dX0_passDay_56 : decode cX0_passDay 56 = .ok (.iinc 1 1, 3) := by decide +kernel
theorem dX0_passDay_59 : decode cX0_passDay 59 = .ok (.iinc 4 1, 3) := by decide +kernel
theorem dX0_passDay_62 : decode cX0_passDay 62 = .ok (.goto (-49), 3) := by decide +kernel
theorem dX0_passDay_65 : decode cX0_passDay 65 = .ok (.aload_n 0, 1) := by decide +kernel
theorem dX0_passDay_66 : decode cX0_passDay 66 = .ok (.dup, 1) := by decide +kernel
theorem dX0_passDay_67 : decode cX0_passDay 67 = .ok (.getfield 48, 3) := by decide +kernel
theorem dX0_passDay_70 : decode cX0_passDay 70 = .ok (.iconst 1, 1) := by decide +kernel
theorem dX0_passDay_71 : decode cX0_passDay 71 = .ok (.iadd, 1) := by decide +kernel
theorem dX0_passDay_72 : decode cX0_passDay 72 = .ok (.putfield 48, 3) := by decide +kernel
theorem dX0_passDay_75 : decode cX0_passDay 75 = .ok (.aload_n 0, 1) := by decide +kernel
theorem dX0_passDay_76 : decode cX0_passDay 76 = .ok (.invokevirtual 208, 3) := by decide +kernel
theorem dX0_passDay_79 : decode cX0_passDay 79 = .ok (.iload_n 1, 1) := by decide +kernel
theorem dX0_passDay_80 : decode cX0_passDay 80 = .ok (.ireturn, 1) := by decide +kernel
set_option maxRecDepth 20000 in
theorem ggX0_takeLateFees_X0_hireAt : GoodIn wsX0_takeLateFees wsX0_hireAt := goodIn_r _ [9, 10, 11, 43, 44, 45, 46, 47, 48, 49, 50, 51] (by decide +kernel) (by decide +kernel)
set_option maxRecDepth 20000 in
theorem gX0_takeLateFees_X0_hireAt : GoodIn wsX0_takeLateFees (wsV RX0 71 RX0 yX0_hireAt wsX0_hireAt) := goodIn_app (goodIn_of _ (by decide +kernel)) ggX0_takeLateFees_X0_hireAt
set_option maxRecDepth 20000 in
theorem ggX0_takeLateFees_X3_daysLate : GoodIn wsX0_takeLateFees wsX3_daysLate := goodIn_r _ [16, 17, 18, 19, 20, 21, 22, 52, 53, 54] (by decide +kernel) (by decide +kernel)
set_option maxRecDepth 20000 in
theorem gX0_takeLateFees_X3_daysLate : GoodIn wsX0_takeLateFees (wsV RX0 98 RX3 yX3_daysLate wsX3_daysLate) := goodIn_app (goodIn_of _ (by decide +kernel)) ggX0_takeLateFees_X3_daysLate
set_option maxRecDepth 20000 in
theorem ggX0_takeLateFees_X0_takeFromDeposit : GoodIn wsX0_takeLateFees wsX0_takeFromDeposit := goodIn_r _ [26, 27, 28, 29, 21, 30, 31, 32, 33, 34, 35, 8, 36, 37, 38, 39, 40, 41, 42, 55, 56, 57, 58, 59, 60, 61, 62, 63, 64, 65, 66, 67, 68, 69, 43, 44, 45, 46, 47, 48, 49, 50, 51] (by decide +kernel) (by decide +kernel)
set_option maxRecDepth 20000 in
theorem gX0_takeLateFees_X0_takeFromDeposit : GoodIn wsX0_takeLateFees (wsV RX0 211 RX0 yX0_takeFromDeposit wsX0_takeFromDeposit) := goodIn_app (goodIn_of _ (by decide +kernel)) ggX0_takeLateFees_X0_takeFromDeposit
theorem dX0_takeLateFees_0 : decode cX0_takeLateFees 0 = .ok (.aload_n 0, 1) := by decide +kernel
theorem dX0_takeLateFees_1 : decode cX0_takeLateFees 1 = .ok (.getfield 43, 3) := by decide +kernel
theorem dX0_takeLateFees_4 : decode cX0_takeLateFees 4 = .ok (.astore_n 1, 1) := by decide +kernel
theorem dX0_takeLateFees_5 : decode cX0_takeLateFees 5 = .ok (.aload_n 1, 1) := by decide +kernel
theorem dX0_takeLateFees_6 : decode cX0_takeLateFees 6 = .ok (.arraylength, 1) := by decide +kernel
theorem dX0_takeLateFees_7 : decode cX0_takeLateFees 7 = .ok (.istore_n 2, 1) := by decide +kernel
theorem dX0_takeLateFees_8 : decode cX0_takeLateFees 8 = .ok (.iconst 0, 1) := by decide +kernel
theorem dX0_takeLateFees_9 : decode cX0_takeLateFees 9 = .ok (.istore_n 3, 1) := by decide +kernel
theorem dX0_takeLateFees_10 : decode cX0_takeLateFees 10 = .ok (.iload_n 3, 1) := by decide +kernel
theorem dX0_takeLateFees_11 : decode cX0_takeLateFees 11 = .ok (.iload_n 2, 1) := by decide +kernel
theorem dX0_takeLateFees_12 : decode cX0_takeLateFees 12 = .ok (.if_icmp .ge 57, 3) := by decide +kernel
theorem dX0_takeLateFees_15 : decode cX0_takeLateFees 15 = .ok (.aload_n 1, 1) := by decide +kernel
theorem dX0_takeLateFees_16 : decode cX0_takeLateFees 16 = .ok (.iload_n 3, 1) := by decide +kernel
theorem dX0_takeLateFees_17 : decode cX0_takeLateFees 17 = .ok (.aaload, 1) := by decide +kernel
theorem dX0_takeLateFees_18 : decode cX0_takeLateFees 18 = .ok (.astore 4, 2) := by decide +kernel
theorem dX0_takeLateFees_20 : decode cX0_takeLateFees 20 = .ok (.aload_n 0, 1) := by decide +kernel
theorem dX0_takeLateFees_21 : decode cX0_takeLateFees 21 = .ok (.aload 4, 2) := by decide +kernel
theorem dX0_takeLateFees_23 : decode cX0_takeLateFees 23 = .ok (.getfield 95, 3) := by decide +kernel
theorem dX0_takeLateFees_26 : decode cX0_takeLateFees 26 = .ok (.invokevirtual 71, 3) := by decide +kernel
theorem dX0_takeLateFees_29 : decode cX0_takeLateFees 29 = .ok (.astore 5, 2) := by decide +kernel
theorem dX0_takeLateFees_31 : decode cX0_takeLateFees 31 = .ok (.aload 5, 2) := by decide +kernel
theorem dX0_takeLateFees_33 : decode cX0_takeLateFees 33 = .ok (.ifnull 30, 3) := by decide +kernel
theorem dX0_takeLateFees_36 : decode cX0_takeLateFees 36 = .ok (.aload 4, 2) := by decide +kernel
theorem dX0_takeLateFees_38 : decode cX0_takeLateFees 38 = .ok (.aload_n 0, 1) := by decide +kernel
theorem dX0_takeLateFees_39 : decode cX0_takeLateFees 39 = .ok (.getfield 48, 3) := by decide +kernel
theorem dX0_takeLateFees_42 : decode cX0_takeLateFees 42 = .ok (.invokevirtual 98, 3) := by decide +kernel
theorem dX0_takeLateFees_45 : decode cX0_takeLateFees 45 = .ok (.ifCond .le 18, 3) := by decide +kernel
theorem dX0_takeLateFees_48 : decode cX0_takeLateFees 48 = .ok (.aload_n 0, 1) := by decide +kernel
theorem dX0_takeLateFees_49 : decode cX0_takeLateFees 49 = .ok (.aload 5, 2) := by decide +kernel
theorem dX0_takeLateFees_51 : decode cX0_takeLateFees 51 = .ok (.aload_n 0, 1) := by decide +kernel
theorem dX0_takeLateFees_52 : decode cX0_takeLateFees 52 = .ok (.getfield 18, 3) := by decide +kernel
theorem dX0_takeLateFees_55 : decode cX0_takeLateFees 55 = .ok (.bipush 6, 2) := by decide +kernel
theorem dX0_takeLateFees_57 : decode cX0_takeLateFees 57 = .ok (.iaload, 1) := by decide +kernel
theorem dX0_takeLateFees_58 : decode cX0_takeLateFees 58 = .ok (.iconst 5, 1) := by decide +kernel
theorem dX0_takeLateFees_59 : decode cX0_takeLateFees 59 = .ok (.invokevirtual 211, 3) := by decide +kernel
theorem dX0_takeLateFees_62 : decode cX0_takeLateFees 62 = .ok (.pop, 1) := by decide +kernel
theorem dX0_takeLateFees_63 : decode cX0_takeLateFees 63 = .ok (.iinc 3 1, 3) := by decide +kernel
theorem dX0_takeLateFees_66 : decode cX0_takeLateFees 66 = .ok (.goto (-56), 3) := by decide +kernel
theorem dX0_takeLateFees_69 : decode cX0_takeLateFees 69 = .ok (.return_, 1) := by decide +kernel
theorem dX1_init_0 : decode cX1_init 0 = .ok (.aload_n 0, 1) := by decide +kernel
theorem dX1_init_1 : decode cX1_init 1 = .ok (.invokespecial 3, 3) := by decide +kernel
theorem dX1_init_4 : decode cX1_init 4 = .ok (.aload_n 0, 1) := by decide +kernel
theorem dX1_init_5 : decode cX1_init 5 = .ok (.iload_n 1, 1) := by decide +kernel
theorem dX1_init_6 : decode cX1_init 6 = .ok (.putfield 9, 3) := by decide +kernel
theorem dX1_init_9 : decode cX1_init 9 = .ok (.aload_n 0, 1) := by decide +kernel
theorem dX1_init_10 : decode cX1_init 10 = .ok (.iconst (-1), 1) := by decide +kernel
theorem dX1_init_11 : decode cX1_init 11 = .ok (.putfield 15, 3) := by decide +kernel
theorem dX1_init_14 : decode cX1_init 14 = .ok (.aload_n 0, 1) := by decide +kernel
theorem dX1_init_15 : decode cX1_init 15 = .ok (.bipush 32, 2) := by decide +kernel
theorem dX1_init_17 : decode cX1_init 17 = .ok (.newarray .int, 2) := by decide +kernel
theorem dX1_init_19 : decode cX1_init 19 = .ok (.putfield 18, 3) := by decide +kernel
theorem dX1_init_22 : decode cX1_init 22 = .ok (.return_, 1) := by decide +kernel
theorem dX1_copyFrom_0 : decode cX1_copyFrom 0 = .ok (.aload_n 0, 1) := by decide +kernel
theorem dX1_copyFrom_1 : decode cX1_copyFrom 1 = .ok (.aload_n 1, 1) := by decide +kernel
theorem dX1_copyFrom_2 : decode cX1_copyFrom 2 = .ok (.getfield 15, 3) := by decide +kernel
theorem dX1_copyFrom_5 : decode cX1_copyFrom 5 = .ok (.putfield 15, 3) := by decide +kernel
theorem dX1_copyFrom_8 : decode cX1_copyFrom 8 = .ok (.aload_n 0, 1) := by decide +kernel
theorem dX1_copyFrom_9 : decode cX1_copyFrom 9 = .ok (.aload_n 1, 1) := by decide +kernel
theorem dX1_copyFrom_10 : decode cX1_copyFrom 10 = .ok (.getfield 22, 3) := by decide +kernel
theorem dX1_copyFrom_13 : decode cX1_copyFrom 13 = .ok (.putfield 22, 3) := by decide +kernel
theorem dX1_copyFrom_16 : decode cX1_copyFrom 16 = .ok (.aload_n 0, 1) := by decide +kernel
theorem dX1_copyFrom_17 : decode cX1_copyFrom 17 = .ok (.aload_n 1, 1) := by decide +kernel
theorem dX1_copyFrom_18 : decode cX1_copyFrom 18 = .ok (.getfield 25, 3) := by decide +kernel
theorem dX1_copyFrom_21 : decode cX1_copyFrom 21 = .ok (.putfield 25, 3) := by decide +kernel
theorem dX1_copyFrom_24 : decode cX1_copyFrom 24 = .ok (.aload_n 0, 1) := by decide +kernel
theorem dX1_copyFrom_25 : decode cX1_copyFrom 25 = .ok (.aload_n 1, 1) := by decide +kernel
theorem dX1_copyFrom_26 : decode cX1_copyFrom 26 = .ok (.getfield 28, 3) := by decide +kernel
theorem dX1_copyFrom_29 : decode cX1_copyFrom 29 = .ok (.putfield 28, 3) := by decide +kernel
theorem dX1_copyFrom_32 : decode cX1_copyFrom 32 = .ok (.aload_n 0, 1) := by decide +kernel
theorem dX1_copyFrom_33 : decode cX1_copyFrom 33 = .ok (.aload_n 1, 1) := by decide +kernel
theorem dX1_copyFrom_34 : decode cX1_copyFrom 34 = .ok (.getfield 31, 3) := by decide +kernel
theorem dX1_copyFrom_37 : decode cX1_copyFrom 37 = .ok (.putfield 31, 3) := by decide +kernel
theorem dX1_copyFrom_40 : decode cX1_copyFrom 40 = .ok (.aload_n 0, 1) := by decide +kernel
theorem dX1_copyFrom_41 : decode cX1_copyFrom 41 = .ok (.aload_n 1, 1) := by decide +kernel
theorem dX1_copyFrom_42 : decode cX1_copyFrom 42 = .ok (.getfield 34, 3) := by decide +kernel
theorem dX1_copyFrom_45 : decode cX1_copyFrom 45 = .ok (.putfield 34, 3) := by decide +kernel
theorem dX1_copyFrom_48 : decode cX1_copyFrom 48 = .ok (.aload_n 0, 1) := by decide +kernel
theorem dX1_copyFrom_49 : decode cX1_copyFrom 49 = .ok (.aload_n 1, 1) := by decide +kernel
theorem dX1_copyFrom_50 : decode cX1_copyFrom 50 = .ok (.getfield 37, 3) := by decide +kernel
theorem dX1_copyFrom_53 : decode cX1_copyFrom 53 = .ok (.putfield 37, 3) := by decide +kernel
theorem dX1_copyFrom_56 : decode cX1_copyFrom 56 = .ok (.aload_n 0, 1) := by decide +kernel
theorem dX1_copyFrom_57 : decode cX1_copyFrom 57 = .ok (.aload_n 1, 1) := by decide +kernel
theorem dX1_copyFrom_58 : decode cX1_copyFrom 58 = .ok (.getfield 40, 3) := by decide +kernel
theorem dX1_copyFrom_61 : decode cX1_copyFrom 61 = .ok (.putfield 40, 3) := by decide +kernel
theorem dX1_copyFrom_64 : decode cX1_copyFrom 64 = .ok (.aload_n 0, 1) := by decide +kernel
theorem dX1_copyFrom_65 : decode cX1_copyFrom 65 = .ok (.aload_n 1, 1) := by decide +kernel
theorem dX1_copyFrom_66 : decode cX1_copyFrom 66 = .ok (.getfield 43, 3) := by decide +kernel
theorem dX1_copyFrom_69 : decode cX1_copyFrom 69 = .ok (.putfield 43, 3) := by decide +kernel
theorem dX1_copyFrom_72 : decode cX1_copyFrom 72 = .ok (.aload_n 0, 1) := by decide +kernel
theorem dX1_copyFrom_73 : decode cX1_copyFrom 73 = .ok (.aload_n 1, 1) := by decide +kernel
theorem dX1_copyFrom_74 : decode cX1_copyFrom 74 = .ok (.getfield 46, 3) := by decide +kernel
theorem dX1_copyFrom_77 : decode cX1_copyFrom 77 = .ok (.putfield 46, 3) := by decide +kernel
theorem dX1_copyFrom_80 : decode cX1_copyFrom 80 = .ok (.aload_n 0, 1) := by decide +kernel
theorem dX1_copyFrom_81 : decode cX1_copyFrom 81 = .ok (.aload_n 1, 1) := by decide +kernel
theorem dX1_copyFrom_82 : decode cX1_copyFrom 82 = .ok (.getfield 49, 3) := by decide +kernel
theorem dX1_copyFrom_85 : decode cX1_copyFrom 85 = .ok (.putfield 49, 3) := by decide +kernel
theorem dX1_copyFrom_88 : decode cX1_copyFrom 88 = .ok (.aload_n 0, 1) := by decide +kernel
theorem dX1_copyFrom_89 : decode cX1_copyFrom 89 = .ok (.aload_n 1, 1) := by decide +kernel
theorem dX1_copyFrom_90 : decode cX1_copyFrom 90 = .ok (.getfield 52, 3) := by decide +kernel
theorem dX1_copyFrom_93 : decode cX1_copyFrom 93 = .ok (.putfield 52, 3) := by decide +kernel
theorem dX1_copyFrom_96 : decode cX1_copyFrom 96 = .ok (.aload_n 0, 1) := by decide +kernel
theorem dX1_copyFrom_97 : decode cX1_copyFrom 97 = .ok (.aload_n 1, 1) := by decide +kernel
theorem dX1_copyFrom_98 : decode cX1_copyFrom 98 = .ok (.getfield 55, 3) := by decide +kernel
theorem dX1_copyFrom_101 : decode cX1_copyFrom 101 = .ok (.putfield 55, 3) := by decide +kernel
theorem dX1_copyFrom_104 : decode cX1_copyFrom 104 = .ok (.aload_n 1, 1) := by decide +kernel
theorem dX1_copyFrom_105 : decode cX1_copyFrom 105 = .ok (.getfield 18, 3) := by decide +kernel
theorem dX1_copyFrom_108 : decode cX1_copyFrom 108 = .ok (.iconst 0, 1) := by decide +kernel
theorem dX1_copyFrom_109 : decode cX1_copyFrom 109 = .ok (.aload_n 0, 1) := by decide +kernel
theorem dX1_copyFrom_110 : decode cX1_copyFrom 110 = .ok (.getfield 18, 3) := by decide +kernel
theorem dX1_copyFrom_113 : decode cX1_copyFrom 113 = .ok (.iconst 0, 1) := by decide +kernel
theorem dX1_copyFrom_114 : decode cX1_copyFrom 114 = .ok (.aload_n 0, 1) := by decide +kernel
theorem dX1_copyFrom_115 : decode cX1_copyFrom 115 = .ok (.getfield 18, 3) := by decide +kernel
theorem dX1_copyFrom_118 : decode cX1_copyFrom 118 = .ok (.arraylength, 1) := by decide +kernel
theorem dX1_copyFrom_119 : decode cX1_copyFrom 119 = .ok (.invokestatic 59, 3) := by decide +kernel
theorem dX1_copyFrom_122 : decode cX1_copyFrom 122 = .ok (.return_, 1) := by decide +kernel
theorem dX1_begin_0 : decode cX1_begin 0 = .ok (.aload_n 0, 1) := by decide +kernel
theorem dX1_begin_1 : decode cX1_begin 1 = .ok (.aload_n 1, 1) := by decide +kernel
theorem dX1_begin_2 : decode cX1_begin 2 = .ok (.getfield 65, 3) := by decide +kernel
theorem dX1_begin_5 : decode cX1_begin 5 = .ok (.putfield 15, 3) := by decide +kernel
theorem dX1_begin_8 : decode cX1_begin 8 = .ok (.aload_n 0, 1) := by decide +kernel
theorem dX1_begin_9 : decode cX1_begin 9 = .ok (.aload_n 1, 1) := by decide +kernel
theorem dX1_begin_10 : decode cX1_begin 10 = .ok (.getfield 68, 3) := by decide +kernel
theorem dX1_begin_13 : decode cX1_begin 13 = .ok (.putfield 22, 3) := by decide +kernel
theorem dX1_begin_16 : decode cX1_begin 16 = .ok (.aload_n 0, 1) := by decide +kernel
theorem dX1_begin_17 : decode cX1_begin 17 = .ok (.aload_n 1, 1) := by decide +kernel
theorem dX1_begin_18 : decode cX1_begin 18 = .ok (.getfield 69, 3) := by decide +kernel
theorem dX1_begin_21 : decode cX1_begin 21 = .ok (.putfield 25, 3) := by decide +kernel
theorem dX1_begin_24 : decode cX1_begin 24 = .ok (.aload_n 0, 1) := by decide +kernel
theorem dX1_begin_25 : decode cX1_begin 25 = .ok (.aload_n 1, 1) := by decide +kernel
theorem dX1_begin_26 : decode cX1_begin 26 = .ok (.getfield 70, 3) := by decide +kernel
theorem dX1_begin_29 : decode cX1_begin 29 = .ok (.putfield 28, 3) := by decide +kernel
theorem dX1_begin_32 : decode cX1_begin 32 = .ok (.aload_n 0, 1) := by decide +kernel
theorem dX1_begin_33 : decode cX1_begin 33 = .ok (.aload_n 1, 1) := by decide +kernel
theorem dX1_begin_34 : decode cX1_begin 34 = .ok (.getfield 71, 3) := by decide +kernel
theorem dX1_begin_37 : decode cX1_begin 37 = .ok (.putfield 31, 3) := by decide +kernel
theorem dX1_begin_40 : decode cX1_begin 40 = .ok (.aload_n 0, 1) := by decide +kernel
theorem dX1_begin_41 : decode cX1_begin 41 = .ok (.aload_n 1, 1) := by decide +kernel
theorem dX1_begin_42 : decode cX1_begin 42 = .ok (.getfield 72, 3) := by decide +kernel
theorem dX1_begin_45 : decode cX1_begin 45 = .ok (.putfield 34, 3) := by decide +kernel
theorem dX1_begin_48 : decode cX1_begin 48 = .ok (.aload_n 0, 1) := by decide +kernel
theorem dX1_begin_49 : decode cX1_begin 49 = .ok (.aload_n 1, 1) := by decide +kernel
theorem dX1_begin_50 : decode cX1_begin 50 = .ok (.getfield 73, 3) := by decide +kernel
theorem dX1_begin_53 : decode cX1_begin 53 = .ok (.putfield 37, 3) := by decide +kernel
theorem dX1_begin_56 : decode cX1_begin 56 = .ok (.aload_n 0, 1) := by decide +kernel
theorem dX1_begin_57 : decode cX1_begin 57 = .ok (.iload_n 2, 1) := by decide +kernel
theorem dX1_begin_58 : decode cX1_begin 58 = .ok (.putfield 40, 3) := by decide +kernel
theorem dX1_begin_61 : decode cX1_begin 61 = .ok (.aload_n 0, 1) := by decide +kernel
theorem dX1_begin_62 : decode cX1_begin 62 = .ok (.iload_n 3, 1) := by decide +kernel
theorem dX1_begin_63 : decode cX1_begin 63 = .ok (.putfield 49, 3) := by decide +kernel
theorem dX1_begin_66 : decode cX1_begin 66 = .ok (.return_, 1) := by decide +kernel
set_option maxRecDepth 20000 in
theorem ggX1_property_X7_discountOf : GoodIn wsX1_property wsX7_discountOf := goodIn_r _ [17] (by decide +kernel) (by decide +kernel)
set_option maxRecDepth 20000 in
theorem gX1_property_X7_discountOf_n74 : GoodIn wsX1_property (wsX7_discountOf) := ggX1_property_X7_discountOf
set_option maxRecDepth 20000 in
theorem ggX1_property_X1_plannedSessions : GoodIn wsX1_property wsX1_plannedSessions := goodIn_r _ [22, 5, 9, 10, 23, 24, 25, 26, 27, 28, 29, 30, 31, 32, 33, 34, 35, 36, 37, 38, 39, 40, 41, 42, 43, 44] (by decide +kernel) (by decide +kernel)
set_option maxRecDepth 20000 in
theorem gX1_property_X1_plannedSessions : GoodIn wsX1_property (wsV RX1 78 RX1 yX1_plannedSessions wsX1_plannedSessions) := goodIn_app (goodIn_of _ (by decide +kernel)) ggX1_property_X1_plannedSessions
set_option maxRecDepth 20000 in
theorem ggX1_property_J6_bitCount_0f7a4 : GoodIn wsX1_property wsJ6_bitCount_0f7a4 := goodIn_r _ [26, 27, 28, 29] (by decide +kernel) (by decide +kernel)
set_option maxRecDepth 20000 in
theorem gX1_property_J6_bitCount_0f7a4 : GoodIn wsX1_property (va_wsS RX1 82 yJ6_bitCount_0f7a4 wsJ6_bitCount_0f7a4) := goodIn_app (goodIn_of _ (by decide +kernel)) ggX1_property_J6_bitCount_0f7a4
theorem dX1_property_0 : decode cX1_property 0 = .ok (.iload_n 1, 1) := by decide +kernel
theorem dX1_property_1 : decode cX1_property 1 = .ok (.tableswitch 171 0 15 #[79, 84, 89, 94, 99, 104, 109, 114, 119, 127, 132, 140, 148, 153, 171, 158], 79) := by decide +kernel
theorem dX1_property_80 : decode cX1_property 80 = .ok (.aload_n 0, 1) := by decide +kernel
theorem dX1_property_81 : decode cX1_property 81 = .ok (.getfield 15, 3) := by decide +kernel
theorem dX1_property_84 : decode cX1_property 84 = .ok (.ireturn, 1) := by decide +kernel
theorem dX1_property_85 : decode cX1_property 85 = .ok (.aload_n 0, 1) := by decide +kernel
theorem dX1_property_86 : decode cX1_property 86 = .ok (.getfield 22, 3) := by decide +kernel
theorem dX1_property_89 : decode cX1_property 89 = .ok (.ireturn, 1) := by decide +kernel
theorem dX1_property_90 : decode cX1_property 90 = .ok (.aload_n 0, 1) := by decide +kernel
theorem dX1_property_91 : decode cX1_property 91 = .ok (.getfield 25, 3) := by decide +kernel
theorem dX1_property_94 : decode cX1_property 94 = .ok (.ireturn, 1) := by decide +kernel
theorem dX1_property_95 : decode cX1_property 95 = .ok (.aload_n 0, 1) := by decide +kernel
theorem dX1_property_96 : decode cX1_property 96 = .ok (.getfield 28, 3) := by decide +kernel
theorem dX1_property_99 : decode cX1_property 99 = .ok (.ireturn, 1) := by decide +kernel
theorem dX1_property_100 : decode cX1_property 100 = .ok (.aload_n 0, 1) := by decide +kernel
theorem dX1_property_101 : decode cX1_property 101 = .ok (.getfield 31, 3) := by decide +kernel
theorem dX1_property_104 : decode cX1_property 104 = .ok (.ireturn, 1) := by decide +kernel
theorem dX1_property_105 : decode cX1_property 105 = .ok (.aload_n 0, 1) := by decide +kernel
theorem dX1_property_106 : decode cX1_property 106 = .ok (.getfield 34, 3) := by decide +kernel
theorem dX1_property_109 : decode cX1_property 109 = .ok (.ireturn, 1) := by decide +kernel
theorem dX1_property_110 : decode cX1_property 110 = .ok (.aload_n 0, 1) := by decide +kernel
theorem dX1_property_111 : decode cX1_property 111 = .ok (.getfield 37, 3) := by decide +kernel
theorem dX1_property_114 : decode cX1_property 114 = .ok (.ireturn, 1) := by decide +kernel
theorem dX1_property_115 : decode cX1_property 115 = .ok (.aload_n 0, 1) := by decide +kernel
theorem dX1_property_116 : decode cX1_property 116 = .ok (.getfield 40, 3) := by decide +kernel
theorem dX1_property_119 : decode cX1_property 119 = .ok (.ireturn, 1) := by decide +kernel
theorem dX1_property_120 : decode cX1_property 120 = .ok (.aload_n 0, 1) := by decide +kernel
theorem dX1_property_121 : decode cX1_property 121 = .ok (.getfield 31, 3) := by decide +kernel
theorem dX1_property_124 : decode cX1_property 124 = .ok (.invokestatic 74, 3) := by decide +kernel
theorem dX1_property_127 : decode cX1_property 127 = .ok (.ireturn, 1) := by decide +kernel
theorem dX1_property_128 : decode cX1_property 128 = .ok (.aload_n 0, 1) := by decide +kernel
theorem dX1_property_129 : decode cX1_property 129 = .ok (.invokevirtual 78, 3) := by decide +kernel
theorem dX1_property_132 : decode cX1_property 132 = .ok (.ireturn, 1) := by decide +kernel
theorem dX1_property_133 : decode cX1_property 133 = .ok (.aload_n 0, 1) := by decide +kernel
theorem dX1_property_134 : decode cX1_property 134 = .ok (.getfield 43, 3) := by decide +kernel
theorem dX1_property_137 : decode cX1_property 137 = .ok (.invokestatic 82, 3) := by decide +kernel
theorem dX1_property_140 : decode cX1_property 140 = .ok (.ireturn, 1) := by decide +kernel
theorem dX1_property_141 : decode cX1_property 141 = .ok (.aload_n 0, 1) := by decide +kernel
theorem dX1_property_142 : decode cX1_property 142 = .ok (.getfield 46, 3) := by decide +kernel
theorem dX1_property_145 : decode cX1_property 145 = .ok (.invokestatic 82, 3) := by decide +kernel
theorem dX1_property_148 : decode cX1_property 148 = .ok (.ireturn, 1) := by decide +kernel
theorem dX1_property_149 : decode cX1_property 149 = .ok (.aload_n 0, 1) := by decide +kernel
theorem dX1_property_150 : decode cX1_property 150 = .ok (.getfield 49, 3) := by decide +kernel
theorem dX1_property_153 : decode cX1_property 153 = .ok (.ireturn, 1) := by decide +kernel
theorem dX1_property_154 : decode cX1_property 154 = .ok (.aload_n 0, 1) := by decide +kernel
theorem dX1_property_155 : decode cX1_property 155 = .ok (.getfield 52, 3) := by decide +kernel
theorem dX1_property_158 : decode cX1_property 158 = .ok (.ireturn, 1) := by decide +kernel
theorem dX1_property_159 : decode cX1_property 159 = .ok (.aload_n 0, 1) := by decide +kernel
theorem dX1_property_160 : decode cX1_property 160 = .ok (.getfield 55, 3) := by decide +kernel
theorem dX1_property_163 : decode cX1_property 163 = .ok (.ifCond .eq 7, 3) := by decide +kernel
theorem dX1_property_166 : decode cX1_property 166 = .ok (.iconst 1, 1) := by decide +kernel
theorem dX1_property_167 : decode cX1_property 167 = .ok (.goto 4, 3) := by decide +kernel
theorem dX1_property_170 : decode cX1_property 170 = .ok (.iconst 0, 1) := by decide +kernel
theorem dX1_property_171 : decode cX1_property 171 = .ok (.ireturn, 1) := by decide +kernel
theorem dX1_property_172 : decode cX1_property 172 = .ok (.ldc 87, 2) := by decide +kernel
theorem dX1_property_174 : decode cX1_property 174 = .ok (.ireturn, 1) := by decide +kernel
theorem dX1_dayOf_0 : decode cX1_dayOf 0 = .ok (.aload_n 0, 1) := by decide +kernel
theorem dX1_dayOf_1 : decode cX1_dayOf 1 = .ok (.getfield 34, 3) := by decide +kernel
theorem dX1_dayOf_4 : decode cX1_dayOf 4 = .ok (.iload_n 1, 1) := by decide +kernel
theorem dX1_dayOf_5 : decode cX1_dayOf 5 = .ok (.aload_n 0, 1) := by decide +kernel
theorem dX1_dayOf_6 : decode cX1_dayOf 6 = .ok (.getfield 37, 3) := by decide +kernel
theorem dX1_dayOf_9 : decode cX1_dayOf 9 = .ok (.imul, 1) := by decide +kernel
theorem dX1_dayOf_10 : decode cX1_dayOf 10 = .ok (.iadd, 1) := by decide +kernel
theorem dX1_dayOf_11 : decode cX1_dayOf 11 = .ok (.ireturn, 1) := by decide +kernel
theorem dX1_stateOf_0 : decode cX1_stateOf 0 = .ok (.aload_n 0, 1) := by decide +kernel
theorem dX1_stateOf_1 : decode cX1_stateOf 1 = .ok (.getfield 43, 3) := by decide +kernel
theorem dX1_stateOf_4 : decode cX1_stateOf 4 = .ok (.iload_n 1, 1) := by decide +kernel
theorem dX1_stateOf_5 : decode cX1_stateOf 5 = .ok (.ishr, 1) := by decide +kernel
theorem dX1_stateOf_6 : decode cX1_stateOf 6 = .ok (.iconst 1, 1) := by decide +kernel
theorem dX1_stateOf_7 : decode cX1_stateOf 7 = .ok (.iand, 1) := by decide +kernel
theorem dX1_stateOf_8 : decode cX1_stateOf 8 = .ok (.iconst 1, 1) := by decide +kernel
theorem dX1_stateOf_9 : decode cX1_stateOf 9 = .ok (.if_icmp .ne 5, 3) := by decide +kernel
theorem dX1_stateOf_12 : decode cX1_stateOf 12 = .ok (.iconst 1, 1) := by decide +kernel
theorem dX1_stateOf_13 : decode cX1_stateOf 13 = .ok (.ireturn, 1) := by decide +kernel
theorem dX1_stateOf_14 : decode cX1_stateOf 14 = .ok (.aload_n 0, 1) := by decide +kernel
theorem dX1_stateOf_15 : decode cX1_stateOf 15 = .ok (.getfield 46, 3) := by decide +kernel
theorem dX1_stateOf_18 : decode cX1_stateOf 18 = .ok (.iload_n 1, 1) := by decide +kernel
theorem dX1_stateOf_19 : decode cX1_stateOf 19 = .ok (.ishr, 1) := by decide +kernel
theorem dX1_stateOf_20 : decode cX1_stateOf 20 = .ok (.iconst 1, 1) := by decide +kernel
theorem dX1_stateOf_21 : decode cX1_stateOf 21 = .ok (.iand, 1) := by decide +kernel
theorem dX1_stateOf_22 : decode cX1_stateOf 22 = .ok (.iconst 1, 1) := by decide +kernel
theorem dX1_stateOf_23 : decode cX1_stateOf 23 = .ok (.if_icmp .ne 7, 3) := by decide +kernel
theorem dX1_stateOf_26 : decode cX1_stateOf 26 = .ok (.iconst 2, 1) := by decide +kernel
theorem dX1_stateOf_27 : decode cX1_stateOf 27 = .ok (.goto 4, 3) := by decide +kernel
theorem dX1_stateOf_30 : decode cX1_stateOf 30 = .ok (.iconst 0, 1) := by decide +kernel
theorem dX1_stateOf_31 : decode cX1_stateOf 31 = .ok (.ireturn, 1) := by decide +kernel
set_option maxRecDepth 20000 in
theorem ggX1_plannedSessions_J6_bitCount_0f7a4 : GoodIn wsX1_plannedSessions wsJ6_bitCount_0f7a4 := goodIn_r _ [7, 8, 9, 10] (by decide +kernel) (by decide +kernel)
set_option maxRecDepth 20000 in
theorem gX1_plannedSessions_J6_bitCount_0f7a4 : GoodIn wsX1_plannedSessions (va_wsS RX1 82 yJ6_bitCount_0f7a4 wsJ6_bitCount_0f7a4) := goodIn_app (goodIn_of _ (by decide +kernel)) ggX1_plannedSessions_J6_bitCount_0f7a4
theorem dX1_plannedSessions_0 : decode cX1_plannedSessions 0 = .ok (.aload_n 0, 1) := by decide +kernel
theorem dX1_plannedSessions_1 : decode cX1_plannedSessions 1 = .ok (.getfield 31, 3) := by decide +kernel
theorem dX1_plannedSessions_4 : decode cX1_plannedSessions 4 = .ok (.aload_n 0, 1) := by decide +kernel
theorem dX1_plannedSessions_5 : decode cX1_plannedSessions 5 = .ok (.getfield 43, 3) := by decide +kernel
theorem dX1_plannedSessions_8 : decode cX1_plannedSessions 8 = .ok (.aload_n 0, 1) := by decide +kernel
theorem dX1_plannedSessions_9 : decode cX1_plannedSessions 9 = .ok (.getfield 46, 3) := by decide +kernel
theorem dX1_plannedSessions_12 : decode cX1_plannedSessions 12 = .ok (.ior, 1) := by decide +kernel
theorem dX1_plannedSessions_13 : decode cX1_plannedSessions 13 = .ok (.invokestatic 82, 3) := by decide +kernel
theorem dX1_plannedSessions_16 : decode cX1_plannedSessions 16 = .ok (.isub, 1) := by decide +kernel
theorem dX1_plannedSessions_17 : decode cX1_plannedSessions 17 = .ok (.ireturn, 1) := by decide +kernel
set_option maxRecDepth 20000 in
theorem ggX1_lastPlannedDay_X1_stateOf : GoodIn wsX1_lastPlannedDay wsX1_stateOf := goodIn_r _ [6, 7, 8, 15, 16, 17, 18, 19, 20, 21, 22, 23, 24, 25, 26, 27, 28, 29] (by decide +kernel) (by decide +kernel)
set_option maxRecDepth 20000 in
theorem gX1_lastPlannedDay_X1_stateOf : GoodIn wsX1_lastPlannedDay (wsV RX1 88 RX1 yX1_stateOf wsX1_stateOf) := goodIn_app (goodIn_of _ (by decide +kernel)) ggX1_lastPlannedDay_X1_stateOf
set_option maxRecDepth 20000 in
theorem ggX1_lastPlannedDay_X1_dayOf : GoodIn wsX1_lastPlannedDay wsX1_dayOf := goodIn_r _ [12, 13, 14, 15, 16, 17, 18, 19, 20, 21, 22, 23, 24, 25, 26, 27, 28, 29] (by decide +kernel) (by decide +kernel)
set_option maxRecDepth 20000 in
theorem gX1_lastPlannedDay_X1_dayOf : GoodIn wsX1_lastPlannedDay (wsV RX1 91 RX1 yX1_dayOf wsX1_dayOf) := goodIn_app (goodIn_of _ (by decide +kernel)) ggX1_lastPlannedDay_X1_dayOf
theorem dX1_lastPlannedDay_0 : decode cX1_lastPlannedDay 0 = .ok (.aload_n 0, 1) := by decide +kernel
theorem dX1_lastPlannedDay_1 : decode cX1_lastPlannedDay 1 = .ok (.getfield 31, 3) := by decide +kernel
theorem dX1_lastPlannedDay_4 : decode cX1_lastPlannedDay 4 = .ok (.iconst 1, 1) := by decide +kernel
theorem dX1_lastPlannedDay_5 : decode cX1_lastPlannedDay 5 = .ok (.isub, 1) := by decide +kernel
theorem dX1_lastPlannedDay_6 : decode cX1_lastPlannedDay 6 = .ok (.istore_n 1, 1) := by decide +kernel
theorem dX1_lastPlannedDay_7 : decode cX1_lastPlannedDay 7 = .ok (.iload_n 1, 1) := by decide +kernel
theorem dX1_lastPlannedDay_8 : decode cX1_lastPlannedDay 8 = .ok (.ifCond .lt 23, 3) := by decide +kernel
theorem dX1_lastPlannedDay_11 : decode cX1_lastPlannedDay 11 = .ok (.aload_n 0, 1) := by decide +kernel
theorem dX1_lastPlannedDay_12 : decode cX1_lastPlannedDay 12 = .ok (.iload_n 1, 1) := by decide +kernel
theorem dX1_lastPlannedDay_13 : decode cX1_lastPlannedDay 13 = .ok (.invokevirtual 88, 3) := by decide +kernel
theorem dX1_lastPlannedDay_16 : decode cX1_lastPlannedDay 16 = .ok (.ifCond .ne 9, 3) := by decide +kernel
theorem dX1_lastPlannedDay_19 : decode cX1_lastPlannedDay 19 = .ok (.aload_n 0, 1) := by decide +kernel
theorem dX1_lastPlannedDay_20 : decode cX1_lastPlannedDay 20 = .ok (.iload_n 1, 1) := by decide +kernel
theorem dX1_lastPlannedDay_21 : decode cX1_lastPlannedDay 21 = .ok (.invokevirtual 91, 3) := by decide +kernel
theorem dX1_lastPlannedDay_24 : decode cX1_lastPlannedDay 24 = .ok (.ireturn, 1) := by decide +kernel
theorem dX1_lastPlannedDay_25 : decode cX1_lastPlannedDay 25 = .ok (.iinc 1 (-1), 3) := by decide +kernel
theorem dX1_lastPlannedDay_28 : decode cX1_lastPlannedDay 28 = .ok (.goto (-21), 3) := by decide +kernel
theorem dX1_lastPlannedDay_31 : decode cX1_lastPlannedDay 31 = .ok (.iconst (-1), 1) := by decide +kernel
theorem dX1_lastPlannedDay_32 : decode cX1_lastPlannedDay 32 = .ok (.ireturn, 1) := by decide +kernel
theorem dX1_shareOf_0 : decode cX1_shareOf 0 = .ok (.aload_n 0, 1) := by decide +kernel
theorem dX1_shareOf_1 : decode cX1_shareOf 1 = .ok (.getfield 31, 3) := by decide +kernel
theorem dX1_shareOf_4 : decode cX1_shareOf 4 = .ok (.iconst 1, 1) := by decide +kernel
theorem dX1_shareOf_5 : decode cX1_shareOf 5 = .ok (.if_icmp .ge 5, 3) := by decide +kernel
theorem dX1_shareOf_8 : decode cX1_shareOf 8 = .ok (.iconst 0, 1) := by decide +kernel
theorem dX1_shareOf_9 : decode cX1_shareOf 9 = .ok (.ireturn, 1) := by decide +kernel
theorem dX1_shareOf_10 : decode cX1_shareOf 10 = .ok (.aload_n 0, 1) := by decide +kernel
theorem dX1_shareOf_11 : decode cX1_shareOf 11 = .ok (.getfield 40, 3) := by decide +kernel
theorem dX1_shareOf_14 : decode cX1_shareOf 14 = .ok (.aload_n 0, 1) := by decide +kernel
theorem dX1_shareOf_15 : decode cX1_shareOf 15 = .ok (.getfield 31, 3) := by decide +kernel
theorem dX1_shareOf_18 : decode cX1_shareOf 18 = .ok (.idiv, 1) := by decide +kernel
theorem dX1_shareOf_19 : decode cX1_shareOf 19 = .ok (.iload_n 1, 1) := by decide +kernel
theorem dX1_shareOf_20 : decode cX1_shareOf 20 = .ok (.aload_n 0, 1) := by decide +kernel
theorem dX1_shareOf_21 : decode cX1_shareOf 21 = .ok (.getfield 40, 3) := by decide +kernel
theorem dX1_shareOf_24 : decode cX1_shareOf 24 = .ok (.aload_n 0, 1) := by decide +kernel
theorem dX1_shareOf_25 : decode cX1_shareOf 25 = .ok (.getfield 31, 3) := by decide +kernel
theorem dX1_shareOf_28 : decode cX1_shareOf 28 = .ok (.irem, 1) := by decide +kernel
theorem dX1_shareOf_29 : decode cX1_shareOf 29 = .ok (.if_icmp .ge 7, 3) := by decide +kernel
theorem dX1_shareOf_32 : decode cX1_shareOf 32 = .ok (.iconst 1, 1) := by decide +kernel
theorem dX1_shareOf_33 : decode cX1_shareOf 33 = .ok (.goto 4, 3) := by decide +kernel
theorem dX1_shareOf_36 : decode cX1_shareOf 36 = .ok (.iconst 0, 1) := by decide +kernel
theorem dX1_shareOf_37 : decode cX1_shareOf 37 = .ok (.iadd, 1) := by decide +kernel
theorem dX1_shareOf_38 : decode cX1_shareOf 38 = .ok (.ireturn, 1) := by decide +kernel
set_option maxRecDepth 20000 in
theorem ggX1_refundOf_X1_dayOf : GoodIn wsX1_refundOf wsX1_dayOf := goodIn_r _ [5, 6, 7, 14, 15, 16, 17, 18, 19, 20, 21, 22, 23, 24, 25, 26, 27, 28] (by decide +kernel) (by decide +kernel)
set_option maxRecDepth 20000 in
theorem gX1_refundOf_X1_dayOf : GoodIn wsX1_refundOf (wsV RX1 91 RX1 yX1_dayOf wsX1_dayOf) := goodIn_app (goodIn_of _ (by decide +kernel)) ggX1_refundOf_X1_dayOf
set_option maxRecDepth 20000 in
theorem ggX1_refundOf_X1_shareOf : GoodIn wsX1_refundOf wsX1_shareOf := goodIn_r _ [11, 12, 13, 14, 15, 16, 17, 18, 19, 20, 21, 22, 23, 24, 25, 26, 27, 28] (by decide +kernel) (by decide +kernel)
set_option maxRecDepth 20000 in
theorem gX1_refundOf_X1_shareOf : GoodIn wsX1_refundOf (wsV RX1 94 RX1 yX1_shareOf wsX1_shareOf) := goodIn_app (goodIn_of _ (by decide +kernel)) ggX1_refundOf_X1_shareOf
theorem dX1_refundOf_0 : decode cX1_refundOf 0 = .ok (.aload_n 0, 1) := by decide +kernel
theorem dX1_refundOf_1 : decode cX1_refundOf 1 = .ok (.iload_n 1, 1) := by decide +kernel
theorem dX1_refundOf_2 : decode cX1_refundOf 2 = .ok (.invokevirtual 91, 3) := by decide +kernel
theorem dX1_refundOf_5 : decode cX1_refundOf 5 = .ok (.iload_n 2, 1) := by decide +kernel
theorem dX1_refundOf_6 : decode cX1_refundOf 6 = .ok (.isub, 1) := by decide +kernel
theorem dX1_refundOf_7 : decode cX1_refundOf 7 = .ok (.istore_n 3, 1) := by decide +kernel
theorem dX1_refundOf_8 : decode cX1_refundOf 8 = .ok (.iload_n 3, 1) := by decide +kernel
theorem dX1_refundOf_9 : decode cX1_refundOf 9 = .ok (.bipush 14, 2) := by decide +kernel
theorem dX1_refundOf_11 : decode cX1_refundOf 11 = .ok (.if_icmp .lt 9, 3) := by decide +kernel
theorem dX1_refundOf_14 : decode cX1_refundOf 14 = .ok (.aload_n 0, 1) := by decide +kernel
theorem dX1_refundOf_15 : decode cX1_refundOf 15 = .ok (.iload_n 1, 1) := by decide +kernel
theorem dX1_refundOf_16 : decode cX1_refundOf 16 = .ok (.invokevirtual 94, 3) := by decide +kernel
theorem dX1_refundOf_19 : decode cX1_refundOf 19 = .ok (.ireturn, 1) := by decide +kernel
theorem dX1_refundOf_20 : decode cX1_refundOf 20 = .ok (.iload_n 3, 1) := by decide +kernel
theorem dX1_refundOf_21 : decode cX1_refundOf 21 = .ok (.bipush 7, 2) := by decide +kernel
theorem dX1_refundOf_23 : decode cX1_refundOf 23 = .ok (.if_icmp .lt 13, 3) := by decide +kernel
theorem dX1_refundOf_26 : decode cX1_refundOf 26 = .ok (.aload_n 0, 1) := by decide +kernel
theorem dX1_refundOf_27 : decode cX1_refundOf 27 = .ok (.iload_n 1, 1) := by decide +kernel
theorem dX1_refundOf_28 : decode cX1_refundOf 28 = .ok (.invokevirtual 94, 3) := by decide +kernel
theorem dX1_refundOf_31 : decode cX1_refundOf 31 = .ok (.iconst 2, 1) := by decide +kernel
theorem dX1_refundOf_32 : decode cX1_refundOf 32 = .ok (.idiv, 1) := by decide +kernel
theorem dX1_refundOf_33 : decode cX1_refundOf 33 = .ok (.goto 4, 3) := by decide +kernel
theorem dX1_refundOf_36 : decode cX1_refundOf 36 = .ok (.iconst 0, 1) := by decide +kernel
theorem dX1_refundOf_37 : decode cX1_refundOf 37 = .ok (.ireturn, 1) := by decide +kernel
theorem dX1_indexOn_0 : decode cX1_indexOn 0 = .ok (.iload_n 1, 1) := by decide +kernel
theorem dX1_indexOn_1 : decode cX1_indexOn 1 = .ok (.aload_n 0, 1) := by decide +kernel
theorem dX1_indexOn_2 : decode cX1_indexOn 2 = .ok (.getfield 34, 3) := by decide +kernel
theorem dX1_indexOn_5 : decode cX1_indexOn 5 = .ok (.isub, 1) := by decide +kernel
theorem dX1_indexOn_6 : decode cX1_indexOn 6 = .ok (.istore_n 2, 1) := by decide +kernel
theorem dX1_indexOn_7 : decode cX1_indexOn 7 = .ok (.aload_n 0, 1) := by decide +kernel
theorem dX1_indexOn_8 : decode cX1_indexOn 8 = .ok (.getfield 37, 3) := by decide +kernel
theorem dX1_indexOn_11 : decode cX1_indexOn 11 = .ok (.iconst 1, 1) := by decide +kernel
theorem dX1_indexOn_12 : decode cX1_indexOn 12 = .ok (.if_icmp .lt 16, 3) := by decide +kernel
theorem dX1_indexOn_15 : decode cX1_indexOn 15 = .ok (.iload_n 2, 1) := by decide +kernel
theorem dX1_indexOn_16 : decode cX1_indexOn 16 = .ok (.ifCond .lt 12, 3) := by decide +kernel
theorem dX1_indexOn_19 : decode cX1_indexOn 19 = .ok (.iload_n 2, 1) := by decide +kernel
theorem dX1_indexOn_20 : decode cX1_indexOn 20 = .ok (.aload_n 0, 1) := by decide +kernel
theorem dX1_indexOn_21 : decode cX1_indexOn 21 = .ok (.getfield 37, 3) := by decide +kernel
theorem dX1_indexOn_24 : decode cX1_indexOn 24 = .ok (.irem, 1) := by decide +kernel
theorem dX1_indexOn_25 : decode cX1_indexOn 25 = .ok (.ifCond .eq 5, 3) := by decide +kernel
theorem dX1_indexOn_28 : decode cX1_indexOn 28 = .ok (.iconst (-1), 1) := by decide +kernel
theorem dX1_indexOn_29 : decode cX1_indexOn 29 = .ok (.ireturn, 1) := by decide +kernel
theorem dX1_indexOn_30 : decode cX1_indexOn 30 = .ok (.iload_n 2, 1) := by decide +kernel
theorem dX1_indexOn_31 : decode cX1_indexOn 31 = .ok (.aload_n 0, 1) := by decide +kernel
theorem dX1_indexOn_32 : decode cX1_indexOn 32 = .ok (.getfield 37, 3) := by decide +kernel
theorem dX1_indexOn_35 : decode cX1_indexOn 35 = .ok (.idiv, 1) := by decide +kernel
theorem dX1_indexOn_36 : decode cX1_indexOn 36 = .ok (.istore_n 3, 1) := by decide +kernel
theorem dX1_indexOn_37 : decode cX1_indexOn 37 = .ok (.iload_n 3, 1) := by decide +kernel
theorem dX1_indexOn_38 : decode cX1_indexOn 38 = .ok (.aload_n 0, 1) := by decide +kernel
theorem dX1_indexOn_39 : decode cX1_indexOn 39 = .ok (.getfield 31, 3) := by decide +kernel
theorem dX1_indexOn_42 : decode cX1_indexOn 42 = .ok (.if_icmp .ge 18, 3) := by decide +kernel
theorem dX1_indexOn_45 : decode cX1_indexOn 45 = .ok (.aload_n 0, 1) := by decide +kernel
theorem dX1_indexOn_46 : decode cX1_indexOn 46 = .ok (.getfield 46, 3) := by decide +kernel
theorem dX1_indexOn_49 : decode cX1_indexOn 49 = .ok (.iload_n 3, 1) := by decide +kernel
theorem dX1_indexOn_50 : decode cX1_indexOn 50 = .ok (.ishr, 1) := by decide +kernel
theorem dX1_indexOn_51 : decode cX1_indexOn 51 = .ok (.iconst 1, 1) := by decide +kernel
theorem dX1_indexOn_52 : decode cX1_indexOn 52 = .ok (.iand, 1) := by decide +kernel
theorem dX1_indexOn_53 : decode cX1_indexOn 53 = .ok (.ifCond .ne 7, 3) := by decide +kernel
theorem dX1_indexOn_56 : decode cX1_indexOn 56 = .ok (.iload_n 3, 1) := by decide +kernel
theorem dX1_indexOn_57 : decode cX1_indexOn 57 = .ok (.goto 4, 3) := by decide +kernel
theorem dX1_indexOn_60 : decode cX1_indexOn 60 = .ok (.iconst (-1), 1) := by decide +kernel
theorem dX1_indexOn_61 : decode cX1_indexOn 61 = .ok (.ireturn, 1) := by decide +kernel
set_option maxRecDepth 20000 in
theorem ggX1_isOn_X1_indexOn : GoodIn wsX1_isOn wsX1_indexOn := goodIn_r _ [5, 6, 7, 8, 9, 10, 11, 12, 13, 14, 15, 16, 17, 18, 19, 20, 21, 22, 23, 24] (by decide +kernel) (by decide +kernel)
set_option maxRecDepth 20000 in
theorem gX1_isOn_X1_indexOn : GoodIn wsX1_isOn (wsV RX1 97 RX1 yX1_indexOn wsX1_indexOn) := goodIn_app (goodIn_of _ (by decide +kernel)) ggX1_isOn_X1_indexOn
theorem dX1_isOn_0 : decode cX1_isOn 0 = .ok (.aload_n 0, 1) := by decide +kernel
theorem dX1_isOn_1 : decode cX1_isOn 1 = .ok (.iload_n 1, 1) := by decide +kernel
theorem dX1_isOn_2 : decode cX1_isOn 2 = .ok (.invokevirtual 97, 3) := by decide +kernel
theorem dX1_isOn_5 : decode cX1_isOn 5 = .ok (.iconst (-1), 1) := by decide +kernel
theorem dX1_isOn_6 : decode cX1_isOn 6 = .ok (.if_icmp .eq 7, 3) := by decide +kernel
theorem dX1_isOn_9 : decode cX1_isOn 9 = .ok (.iconst 1, 1) := by decide +kernel
theorem dX1_isOn_10 : decode cX1_isOn 10 = .ok (.goto 4, 3) := by decide +kernel
theorem dX1_isOn_13 : decode cX1_isOn 13 = .ok (.iconst 0, 1) := by decide +kernel
theorem dX1_isOn_14 : decode cX1_isOn 14 = .ok (.ireturn, 1) := by decide +kernel
theorem dX1_isAheadOnDay_0 : decode cX1_isAheadOnDay 0 = .ok (.aload_n 0, 1) := by decide +kernel
theorem dX1_isAheadOnDay_1 : decode cX1_isAheadOnDay 1 = .ok (.getfield 25, 3) := by decide +kernel
theorem dX1_isAheadOnDay_4 : decode cX1_isAheadOnDay 4 = .ok (.aload_n 1, 1) := by decide +kernel
theorem dX1_isAheadOnDay_5 : decode cX1_isAheadOnDay 5 = .ok (.getfield 25, 3) := by decide +kernel
theorem dX1_isAheadOnDay_8 : decode cX1_isAheadOnDay 8 = .ok (.if_icmp .lt 25, 3) := by decide +kernel
theorem dX1_isAheadOnDay_11 : decode cX1_isAheadOnDay 11 = .ok (.aload_n 0, 1) := by decide +kernel
theorem dX1_isAheadOnDay_12 : decode cX1_isAheadOnDay 12 = .ok (.getfield 25, 3) := by decide +kernel
theorem dX1_isAheadOnDay_15 : decode cX1_isAheadOnDay 15 = .ok (.aload_n 1, 1) := by decide +kernel
theorem dX1_isAheadOnDay_16 : decode cX1_isAheadOnDay 16 = .ok (.getfield 25, 3) := by decide +kernel
theorem dX1_isAheadOnDay_19 : decode cX1_isAheadOnDay 19 = .ok (.if_icmp .ne 18, 3) := by decide +kernel
theorem dX1_isAheadOnDay_22 : decode cX1_isAheadOnDay 22 = .ok (.aload_n 0, 1) := by decide +kernel
theorem dX1_isAheadOnDay_23 : decode cX1_isAheadOnDay 23 = .ok (.getfield 9, 3) := by decide +kernel
theorem dX1_isAheadOnDay_26 : decode cX1_isAheadOnDay 26 = .ok (.aload_n 1, 1) := by decide +kernel
theorem dX1_isAheadOnDay_27 : decode cX1_isAheadOnDay 27 = .ok (.getfield 9, 3) := by decide +kernel
theorem dX1_isAheadOnDay_30 : decode cX1_isAheadOnDay 30 = .ok (.if_icmp .ge 7, 3) := by decide +kernel
theorem dX1_isAheadOnDay_33 : decode cX1_isAheadOnDay 33 = .ok (.iconst 1, 1) := by decide +kernel
theorem dX1_isAheadOnDay_34 : decode cX1_isAheadOnDay 34 = .ok (.goto 4, 3) := by decide +kernel
theorem dX1_isAheadOnDay_37 : decode cX1_isAheadOnDay 37 = .ok (.iconst 0, 1) := by decide +kernel
theorem dX1_isAheadOnDay_38 : decode cX1_isAheadOnDay 38 = .ok (.ireturn, 1) := by decide +kernel
set_option maxRecDepth 20000 in
theorem ggX1_roomHoursHeld_J6_bitCount_0f7a4 : GoodIn wsX1_roomHoursHeld wsJ6_bitCount_0f7a4 := goodIn_r _ [8, 9, 10, 11] (by decide +kernel) (by decide +kernel)
set_option maxRecDepth 20000 in
theorem gX1_roomHoursHeld_J6_bitCount_0f7a4 : GoodIn wsX1_roomHoursHeld (va_wsS RX1 82 yJ6_bitCount_0f7a4 wsJ6_bitCount_0f7a4) := goodIn_app (goodIn_of _ (by decide +kernel)) ggX1_roomHoursHeld_J6_bitCount_0f7a4
theorem dX1_roomHoursHeld_0 : decode cX1_roomHoursHeld 0 = .ok (.aload_n 0, 1) := by decide +kernel
theorem dX1_roomHoursHeld_1 : decode cX1_roomHoursHeld 1 = .ok (.getfield 43, 3) := by decide +kernel
theorem dX1_roomHoursHeld_4 : decode cX1_roomHoursHeld 4 = .ok (.invokestatic 82, 3) := by decide +kernel
theorem dX1_roomHoursHeld_7 : decode cX1_roomHoursHeld 7 = .ok (.aload_n 0, 1) := by decide +kernel
theorem dX1_roomHoursHeld_8 : decode cX1_roomHoursHeld 8 = .ok (.getfield 22, 3) := by decide +kernel
theorem dX1_roomHoursHeld_11 : decode cX1_roomHoursHeld 11 = .ok (.invokestatic 82, 3) := by decide +kernel
theorem dX1_roomHoursHeld_14 : decode cX1_roomHoursHeld 14 = .ok (.imul, 1) := by decide +kernel
theorem dX1_roomHoursHeld_15 : decode cX1_roomHoursHeld 15 = .ok (.aload_n 0, 1) := by decide +kernel
theorem dX1_roomHoursHeld_16 : decode cX1_roomHoursHeld 16 = .ok (.getfield 28, 3) := by decide +kernel
theorem dX1_roomHoursHeld_19 : decode cX1_roomHoursHeld 19 = .ok (.aload_n 0, 1) := by decide +kernel
theorem dX1_roomHoursHeld_20 : decode cX1_roomHoursHeld 20 = .ok (.getfield 25, 3) := by decide +kernel
theorem dX1_roomHoursHeld_23 : decode cX1_roomHoursHeld 23 = .ok (.isub, 1) := by decide +kernel
theorem dX1_roomHoursHeld_24 : decode cX1_roomHoursHeld 24 = .ok (.imul, 1) := by decide +kernel
theorem dX1_roomHoursHeld_25 : decode cX1_roomHoursHeld 25 = .ok (.ireturn, 1) := by decide +kernel
theorem dX1_canHaveFault_0 : decode cX1_canHaveFault 0 = .ok (.iload_n 1, 1) := by decide +kernel
theorem dX1_canHaveFault_1 : decode cX1_canHaveFault 1 = .ok (.iconst 1, 1) := by decide +kernel
theorem dX1_canHaveFault_2 : decode cX1_canHaveFault 2 = .ok (.if_icmp .ne 12, 3) := by decide +kernel
theorem dX1_canHaveFault_5 : decode cX1_canHaveFault 5 = .ok (.aload_n 0, 1) := by decide +kernel
theorem dX1_canHaveFault_6 : decode cX1_canHaveFault 6 = .ok (.getfield 22, 3) := by decide +kernel
theorem dX1_canHaveFault_9 : decode cX1_canHaveFault 9 = .ok (.iconst 2, 1) := by decide +kernel
theorem dX1_canHaveFault_10 : decode cX1_canHaveFault 10 = .ok (.iand, 1) := by decide +kernel
theorem dX1_canHaveFault_11 : decode cX1_canHaveFault 11 = .ok (.ifCond .eq 7, 3) := by decide +kernel
theorem dX1_canHaveFault_14 : decode cX1_canHaveFault 14 = .ok (.iconst 1, 1) := by decide +kernel
theorem dX1_canHaveFault_15 : decode cX1_canHaveFault 15 = .ok (.goto 4, 3) := by decide +kernel
theorem dX1_canHaveFault_18 : decode cX1_canHaveFault 18 = .ok (.iconst 0, 1) := by decide +kernel
theorem dX1_canHaveFault_19 : decode cX1_canHaveFault 19 = .ok (.ireturn, 1) := by decide +kernel
set_option maxRecDepth 20000 in
theorem ggX1_costOfFault_J6_bitCount_0f7a4 : GoodIn wsX1_costOfFault wsJ6_bitCount_0f7a4 := goodIn_r _ [5, 6, 7, 8] (by decide +kernel) (by decide +kernel)
set_option maxRecDepth 20000 in
theorem gX1_costOfFault_J6_bitCount_0f7a4 : GoodIn wsX1_costOfFault (va_wsS RX1 82 yJ6_bitCount_0f7a4 wsJ6_bitCount_0f7a4) := goodIn_app (goodIn_of _ (by decide +kernel)) ggX1_costOfFault_J6_bitCount_0f7a4
set_option maxRecDepth 20000 in
theorem ggX1_costOfFault_X1_timesLeftLate : GoodIn wsX1_costOfFault wsX1_timesLeftLate := goodIn_r _ [13, 14, 15, 16, 17, 12, 18, 19, 20, 21, 22, 23, 24, 25, 26, 27, 28, 29, 30, 31, 32, 33, 34, 35] (by decide +kernel) (by decide +kernel)
set_option maxRecDepth 20000 in
theorem gX1_costOfFault_X1_timesLeftLate : GoodIn wsX1_costOfFault (wsV RX1 100 RX1 yX1_timesLeftLate wsX1_timesLeftLate) := goodIn_app (goodIn_of _ (by decide +kernel)) ggX1_costOfFault_X1_timesLeftLate
theorem dX1_costOfFault_0 : decode cX1_costOfFault 0 = .ok (.iload_n 1, 1) := by decide +kernel
theorem dX1_costOfFault_1 : decode cX1_costOfFault 1 = .ok (.tableswitch 47 0 2 #[27, 39, 43], 27) := by decide +kernel
theorem dX1_costOfFault_28 : decode cX1_costOfFault 28 = .ok (.sipush 1000, 3) := by decide +kernel
theorem dX1_costOfFault_31 : decode cX1_costOfFault 31 = .ok (.aload_n 0, 1) := by decide +kernel
theorem dX1_costOfFault_32 : decode cX1_costOfFault 32 = .ok (.getfield 22, 3) := by decide +kernel
theorem dX1_costOfFault_35 : decode cX1_costOfFault 35 = .ok (.invokestatic 82, 3) := by decide +kernel
theorem dX1_costOfFault_38 : decode cX1_costOfFault 38 = .ok (.imul, 1) := by decide +kernel
theorem dX1_costOfFault_39 : decode cX1_costOfFault 39 = .ok (.ireturn, 1) := by decide +kernel
theorem dX1_costOfFault_40 : decode cX1_costOfFault 40 = .ok (.sipush 2500, 3) := by decide +kernel
theorem dX1_costOfFault_43 : decode cX1_costOfFault 43 = .ok (.ireturn, 1) := by decide +kernel
theorem dX1_costOfFault_44 : decode cX1_costOfFault 44 = .ok (.sipush 4000, 3) := by decide +kernel
theorem dX1_costOfFault_47 : decode cX1_costOfFault 47 = .ok (.ireturn, 1) := by decide +kernel
theorem dX1_costOfFault_48 : decode cX1_costOfFault 48 = .ok (.sipush 2000, 3) := by decide +kernel
theorem dX1_costOfFault_51 : decode cX1_costOfFault 51 = .ok (.sipush 500, 3) := by decide +kernel
theorem dX1_costOfFault_54 : decode cX1_costOfFault 54 = .ok (.aload_n 0, 1) := by decide +kernel
theorem dX1_costOfFault_55 : decode cX1_costOfFault 55 = .ok (.invokevirtual 100, 3) := by decide +kernel
theorem dX1_costOfFault_58 : decode cX1_costOfFault 58 = .ok (.imul, 1) := by decide +kernel
theorem dX1_costOfFault_59 : decode cX1_costOfFault 59 = .ok (.iadd, 1) := by decide +kernel
theorem dX1_costOfFault_60 : decode cX1_costOfFault 60 = .ok (.ireturn, 1) := by decide +kernel
set_option maxRecDepth 20000 in
theorem ggX1_timesLeftLate_X1_faultProperty : GoodIn wsX1_timesLeftLate wsX1_faultProperty := goodIn_r _ [6, 1, 7, 8, 9, 10, 11, 12, 13, 14, 15, 16, 17, 18, 19, 20, 21, 22, 23] (by decide +kernel) (by decide +kernel)
set_option maxRecDepth 20000 in
theorem gX1_timesLeftLate_X1_faultProperty : GoodIn wsX1_timesLeftLate (wsV RX1 103 RX1 yX1_faultProperty wsX1_faultProperty) := goodIn_app (goodIn_of _ (by decide +kernel)) ggX1_timesLeftLate_X1_faultProperty
theorem dX1_timesLeftLate_0 : decode cX1_timesLeftLate 0 = .ok (.iconst 0, 1) := by decide +kernel
theorem dX1_timesLeftLate_1 : decode cX1_timesLeftLate 1 = .ok (.istore_n 1, 1) := by decide +kernel
theorem dX1_timesLeftLate_2 : decode cX1_timesLeftLate 2 = .ok (.iconst 0, 1) := by decide +kernel
theorem dX1_timesLeftLate_3 : decode cX1_timesLeftLate 3 = .ok (.istore_n 2, 1) := by decide +kernel
theorem dX1_timesLeftLate_4 : decode cX1_timesLeftLate 4 = .ok (.iload_n 2, 1) := by decide +kernel
theorem dX1_timesLeftLate_5 : decode cX1_timesLeftLate 5 = .ok (.aload_n 0, 1) := by decide +kernel
theorem dX1_timesLeftLate_6 : decode cX1_timesLeftLate 6 = .ok (.getfield 52, 3) := by decide +kernel
theorem dX1_timesLeftLate_9 : decode cX1_timesLeftLate 9 = .ok (.if_icmp .ge 22, 3) := by decide +kernel
theorem dX1_timesLeftLate_12 : decode cX1_timesLeftLate 12 = .ok (.aload_n 0, 1) := by decide +kernel
theorem dX1_timesLeftLate_13 : decode cX1_timesLeftLate 13 = .ok (.iload_n 2, 1) := by decide +kernel
theorem dX1_timesLeftLate_14 : decode cX1_timesLeftLate 14 = .ok (.iconst 0, 1) := by decide +kernel
theorem dX1_timesLeftLate_15 : decode cX1_timesLeftLate 15 = .ok (.invokevirtual 103, 3) := by decide +kernel
theorem dX1_timesLeftLate_18 : decode cX1_timesLeftLate 18 = .ok (.iconst 3, 1) := by decide +kernel
theorem dX1_timesLeftLate_19 : decode cX1_timesLeftLate 19 = .ok (.if_icmp .ne 6, 3) := by decide +kernel
theorem dX1_timesLeftLate_22 : decode cX1_timesLeftLate 22 = .ok (.iinc 1 1, 3) := by decide +kernel
theorem dX1_timesLeftLate_25 : decode cX1_timesLeftLate 25 = .ok (.iinc 2 1, 3) := by decide +kernel
theorem dX1_timesLeftLate_28 : decode cX1_timesLeftLate 28 = .ok (.goto (-24), 3) := by decide +kernel
theorem dX1_timesLeftLate_31 : decode cX1_timesLeftLate 31 = .ok (.iload_n 1, 1) := by decide +kernel
theorem dX1_timesLeftLate_32 : decode cX1_timesLeftLate 32 = .ok (.ireturn, 1) := by decide +kernel
theorem dX1_addFault_0 : decode cX1_addFault 0 = .ok (.aload_n 0, 1) := by decide +kernel
theorem dX1_addFault_1 : decode cX1_addFault 1 = .ok (.getfield 52, 3) := by decide +kernel
theorem dX1_addFault_4 : decode cX1_addFault 4 = .ok (.iconst 4, 1) := by decide +kernel
theorem dX1_addFault_5 : decode cX1_addFault 5 = .ok (.imul, 1) := by decide +kernel
theorem dX1_addFault_6 : decode cX1_addFault 6 = .ok (.istore 5, 2) := by decide +kernel
theorem dX1_addFault_8 : decode cX1_addFault 8 = .ok (.iload 5, 2) := by decide +kernel
theorem dX1_addFault_10 : decode cX1_addFault 10 = .ok (.ifCond .lt 15, 3) := by decide +kernel
theorem dX1_addFault_13 : decode cX1_addFault 13 = .ok (.iload 5, 2) := by decide +kernel
theorem dX1_addFault_15 : decode cX1_addFault 15 = .ok (.iconst 4, 1) := by decide +kernel
theorem dX1_addFault_16 : decode cX1_addFault 16 = .ok (.iadd, 1) := by decide +kernel
theorem dX1_addFault_17 : decode cX1_addFault 17 = .ok (.aload_n 0, 1) := by decide +kernel
theorem dX1_addFault_18 : decode cX1_addFault 18 = .ok (.getfield 18, 3) := by decide +kernel
theorem dX1_addFault_21 : decode cX1_addFault 21 = .ok (.arraylength, 1) := by decide +kernel
theorem dX1_addFault_22 : decode cX1_addFault 22 = .ok (.if_icmp .le 4, 3) := by decide +kernel
theorem dX1_addFault_25 : decode cX1_addFault 25 = .ok (.return_, 1) := by decide +kernel
theorem dX1_addFault_26 : decode cX1_addFault 26 = .ok (.aload_n 0, 1) := by decide +kernel
theorem dX1_addFault_27 : decode cX1_addFault 27 = .ok (.getfield 18, 3) := by decide +kernel
theorem dX1_addFault_30 : decode cX1_addFault 30 = .ok (.iload 5, 2) := by decide +kernel
theorem dX1_addFault_32 : decode cX1_addFault 32 = .ok (.iload_n 1, 1) := by decide +kernel
theorem dX1_addFault_33 : decode cX1_addFault 33 = .ok (.iastore, 1) := by decide +kernel
theorem dX1_addFault_34 : decode cX1_addFault 34 = .ok (.aload_n 0, 1) := by decide +kernel
theorem dX1_addFault_35 : decode cX1_addFault 35 = .ok (.getfield 18, 3) := by decide +kernel
theorem dX1_addFault_38 : decode cX1_addFault 38 = .ok (.iload 5, 2) := by decide +kernel
theorem dX1_addFault_40 : decode cX1_addFault 40 = .ok (.iconst 1, 1) := by decide +kernel
theorem dX1_addFault_41 : decode cX1_addFault 41 = .ok (.iadd, 1) := by decide +kernel
theorem dX1_addFault_42 : decode cX1_addFault 42 = .ok (.iload_n 2, 1) := by decide +kernel
theorem dX1_addFault_43 : decode cX1_addFault 43 = .ok (.iastore, 1) := by decide +kernel
theorem dX1_addFault_44 : decode cX1_addFault 44 = .ok (.aload_n 0, 1) := by decide +kernel
theorem dX1_addFault_45 : decode cX1_addFault 45 = .ok (.getfield 18, 3) := by decide +kernel
theorem dX1_addFault_48 : decode cX1_addFault 48 = .ok (.iload 5, 2) := by decide +kernel
theorem dX1_addFault_50 : decode cX1_addFault 50 = .ok (.iconst 2, 1) := by decide +kernel
theorem dX1_addFault_51 : decode cX1_addFault 51 = .ok (.iadd, 1) := by decide +kernel
theorem dX1_addFault_52 : decode cX1_addFault 52 = .ok (.iload_n 3, 1) := by decide +kernel
theorem dX1_addFault_53 : decode cX1_addFault 53 = .ok (.iastore, 1) := by decide +kernel
theorem dX1_addFault_54 : decode cX1_addFault 54 = .ok (.aload_n 0, 1) := by decide +kernel
theorem dX1_addFault_55 : decode cX1_addFault 55 = .ok (.getfield 18, 3) := by decide +kernel
theorem dX1_addFault_58 : decode cX1_addFault 58 = .ok (.iload 5, 2) := by decide +kernel
theorem dX1_addFault_60 : decode cX1_addFault 60 = .ok (.iconst 3, 1) := by decide +kernel
theorem dX1_addFault_61 : decode cX1_addFault 61 = .ok (.iadd, 1) := by decide +kernel
theorem dX1_addFault_62 : decode cX1_addFault 62 = .ok (.iload 4, 2) := by decide +kernel
theorem dX1_addFault_64 : decode cX1_addFault 64 = .ok (.iastore, 1) := by decide +kernel
theorem dX1_addFault_65 : decode cX1_addFault 65 = .ok (.aload_n 0, 1) := by decide +kernel
theorem dX1_addFault_66 : decode cX1_addFault 66 = .ok (.dup, 1) := by decide +kernel
theorem dX1_addFault_67 : decode cX1_addFault 67 = .ok (.getfield 52, 3) := by decide +kernel
theorem dX1_addFault_70 : decode cX1_addFault 70 = .ok (.iconst 1, 1) := by decide +kernel
theorem dX1_addFault_71 : decode cX1_addFault 71 = .ok (.iadd, 1) := by decide +kernel
theorem dX1_addFault_72 : decode cX1_addFault 72 = .ok (.putfield 52, 3) := by decide +kernel
theorem dX1_addFault_75 : decode cX1_addFault 75 = .ok (.return_, 1) := by decide +kernel
theorem dX1_faultProperty_0 : decode cX1_faultProperty 0 = .ok (.iload_n 1, 1) := by decide +kernel
theorem dX1_faultProperty_1 : decode cX1_faultProperty 1 = .ok (.ifCond .lt 26, 3) := by decide +kernel
theorem dX1_faultProperty_4 : decode cX1_faultProperty 4 = .ok (.iload_n 1, 1) := by decide +kernel
theorem dX1_faultProperty_5 : decode cX1_faultProperty 5 = .ok (.aload_n 0, 1) := by decide +kernel
theorem dX1_faultProperty_6 : decode cX1_faultProperty 6 = .ok (.getfield 52, 3) := by decide +kernel
theorem dX1_faultProperty_9 : decode cX1_faultProperty 9 = .ok (.if_icmp .ge 18, 3) := by decide +kernel
theorem dX1_faultProperty_12 : decode cX1_faultProperty 12 = .ok (.iload_n 1, 1) := by decide +kernel
theorem dX1_faultProperty_13 : decode cX1_faultProperty 13 = .ok (.bipush 8, 2) := by decide +kernel
theorem dX1_faultProperty_15 : decode cX1_faultProperty 15 = .ok (.if_icmp .ge 12, 3) := by decide +kernel
theorem dX1_faultProperty_18 : decode cX1_faultProperty 18 = .ok (.iload_n 2, 1) := by decide +kernel
theorem dX1_faultProperty_19 : decode cX1_faultProperty 19 = .ok (.ifCond .lt 8, 3) := by decide +kernel
theorem dX1_faultProperty_22 : decode cX1_faultProperty 22 = .ok (.iload_n 2, 1) := by decide +kernel
theorem dX1_faultProperty_23 : decode cX1_faultProperty 23 = .ok (.iconst 4, 1) := by decide +kernel
theorem dX1_faultProperty_24 : decode cX1_faultProperty 24 = .ok (.if_icmp .lt 6, 3) := by decide +kernel
theorem dX1_faultProperty_27 : decode cX1_faultProperty 27 = .ok (.ldc 107, 2) := by decide +kernel
theorem dX1_faultProperty_29 : decode cX1_faultProperty 29 = .ok (.ireturn, 1) := by decide +kernel
theorem dX1_faultProperty_30 : decode cX1_faultProperty 30 = .ok (.aload_n 0, 1) := by decide +kernel
theorem dX1_faultProperty_31 : decode cX1_faultProperty 31 = .ok (.getfield 18, 3) := by decide +kernel
theorem dX1_faultProperty_34 : decode cX1_faultProperty 34 = .ok (.iload_n 1, 1) := by decide +kernel
theorem dX1_faultProperty_35 : decode cX1_faultProperty 35 = .ok (.iconst 4, 1) := by decide +kernel
theorem dX1_faultProperty_36 : decode cX1_faultProperty 36 = .ok (.imul, 1) := by decide +kernel
theorem dX1_faultProperty_37 : decode cX1_faultProperty 37 = .ok (.iload_n 2, 1) := by decide +kernel
theorem dX1_faultProperty_38 : decode cX1_faultProperty 38 = .ok (.iadd, 1) := by decide +kernel
theorem dX1_faultProperty_39 : decode cX1_faultProperty 39 = .ok (.iaload, 1) := by decide +kernel
theorem dX1_faultProperty_40 : decode cX1_faultProperty 40 = .ok (.ireturn, 1) := by decide +kernel
set_option maxRecDepth 20000 in
theorem ggX2_init_X0_init : GoodIn wsX2_init wsX0_init := goodIn_r _ [10, 11, 2, 3, 12, 13, 14, 15, 16, 17, 18, 19, 20, 21, 22, 23, 24, 25, 26, 27, 28, 29, 30, 31, 32, 33, 34, 35, 36, 37, 38, 39, 40, 41, 42, 43, 46, 47, 48, 49, 50, 51, 52, 53, 54, 55, 56, 57, 58, 59, 60, 61, 62, 63, 64, 65, 66, 67, 68, 69, 70, 71, 72] (by decide +kernel) (by decide +kernel)
set_option maxRecDepth 20000 in
theorem gX2_init_X0_init : GoodIn wsX2_init (wsX0_init) := ggX2_init_X0_init
theorem dX2_init_0 : decode cX2_init 0 = .ok (.aload_n 0, 1) := by decide +kernel
theorem dX2_init_1 : decode cX2_init 1 = .ok (.invokespecial 3, 3) := by decide +kernel
theorem dX2_init_4 : decode cX2_init 4 = .ok (.aload_n 0, 1) := by decide +kernel
theorem dX2_init_5 : decode cX2_init 5 = .ok (.iconst 4, 1) := by decide +kernel
theorem dX2_init_6 : decode cX2_init 6 = .ok (.anewarray 9, 3) := by decide +kernel
theorem dX2_init_9 : decode cX2_init 9 = .ok (.putfield 11, 3) := by decide +kernel
theorem dX2_init_12 : decode cX2_init 12 = .ok (.iconst 0, 1) := by decide +kernel
theorem dX2_init_13 : decode cX2_init 13 = .ok (.istore_n 1, 1) := by decide +kernel
theorem dX2_init_14 : decode cX2_init 14 = .ok (.iload_n 1, 1) := by decide +kernel
theorem dX2_init_15 : decode cX2_init 15 = .ok (.aload_n 0, 1) := by decide +kernel
theorem dX2_init_16 : decode cX2_init 16 = .ok (.getfield 11, 3) := by decide +kernel
theorem dX2_init_19 : decode cX2_init 19 = .ok (.arraylength, 1) := by decide +kernel
theorem dX2_init_20 : decode cX2_init 20 = .ok (.if_icmp .ge 22, 3) := by decide +kernel
theorem dX2_init_23 : decode cX2_init 23 = .ok (.aload_n 0, 1) := by decide +kernel
theorem dX2_init_24 : decode cX2_init 24 = .ok (.getfield 11, 3) := by decide +kernel
theorem dX2_init_27 : decode cX2_init 27 = .ok (.iload_n 1, 1) := by decide +kernel
theorem dX2_init_28 : decode cX2_init 28 = .ok (.new 9, 3) := by decide +kernel
theorem dX2_init_31 : decode cX2_init 31 = .ok (.dup, 1) := by decide +kernel
theorem dX2_init_32 : decode cX2_init 32 = .ok (.invokespecial 17, 3) := by decide +kernel
theorem dX2_init_35 : decode cX2_init 35 = .ok (.aastore, 1) := by decide +kernel
theorem dX2_init_36 : decode cX2_init 36 = .ok (.iinc 1 1, 3) := by decide +kernel
theorem dX2_init_39 : decode cX2_init 39 = .ok (.goto (-25), 3) := by decide +kernel
theorem dX2_init_42 : decode cX2_init 42 = .ok (.return_, 1) := by decide +kernel
set_option maxRecDepth 20000 in
theorem ggX2_save_X2_dropOldest : GoodIn wsX2_save wsX2_dropOldest := goodIn_r _ [7, 2, 1, 53, 54] (by decide +kernel) (by decide +kernel)
set_option maxRecDepth 20000 in
theorem gX2_save_X2_dropOldest : GoodIn wsX2_save (wsV RX2 22 RX2 yX2_dropOldest wsX2_dropOldest) := goodIn_app (goodIn_of _ (by decide +kernel)) ggX2_save_X2_dropOldest
set_option maxRecDepth 20000 in
theorem ggX2_save_X0_copyFrom : GoodIn wsX2_save wsX0_copyFrom := goodIn_r _ [12, 13, 14, 15, 16, 17, 18, 19, 20, 21, 22, 23, 24, 25, 26, 27, 28, 29, 30, 31, 32, 33, 34, 35, 36, 37, 38, 39, 40, 41, 42, 43, 44, 45, 46, 47, 48, 49, 50, 51, 52, 55, 56, 57, 58, 59, 60, 61, 62, 63, 64, 65, 66, 67, 68, 69, 70, 71, 72, 73, 74, 75, 76, 77, 78, 79, 80, 81] (by decide +kernel) (by decide +kernel)
set_option maxRecDepth 20000 in
theorem gX2_save_X0_copyFrom : GoodIn wsX2_save (wsV RX2 25 RX0 yX0_copyFrom wsX0_copyFrom) := goodIn_app (goodIn_of _ (by decide +kernel)) ggX2_save_X0_copyFrom
theorem dX2_save_0 : decode cX2_save 0 = .ok (.aload_n 0, 1) := by decide +kernel
theorem dX2_save_1 : decode cX2_save 1 = .ok (.getfield 18, 3) := by decide +kernel
theorem dX2_save_4 : decode cX2_save 4 = .ok (.aload_n 0, 1) := by decide +kernel
theorem dX2_save_5 : decode cX2_save 5 = .ok (.getfield 11, 3) := by decide +kernel
theorem dX2_save_8 : decode cX2_save 8 = .ok (.arraylength, 1) := by decide +kernel
theorem dX2_save_9 : decode cX2_save 9 = .ok (.if_icmp .lt 7, 3) := by decide +kernel
theorem dX2_save_12 : decode cX2_save 12 = .ok (.aload_n 0, 1) := by decide +kernel
theorem dX2_save_13 : decode cX2_save 13 = .ok (.invokevirtual 22, 3) := by decide +kernel
theorem dX2_save_16 : decode cX2_save 16 = .ok (.aload_n 0, 1) := by decide +kernel
theorem dX2_save_17 : decode cX2_save 17 = .ok (.getfield 18, 3) := by decide +kernel
theorem dX2_save_20 : decode cX2_save 20 = .ok (.ifCond .lt 38, 3) := by decide +kernel
theorem dX2_save_23 : decode cX2_save 23 = .ok (.aload_n 0, 1) := by decide +kernel
theorem dX2_save_24 : decode cX2_save 24 = .ok (.getfield 18, 3) := by decide +kernel
theorem dX2_save_27 : decode cX2_save 27 = .ok (.aload_n 0, 1) := by decide +kernel
theorem dX2_save_28 : decode cX2_save 28 = .ok (.getfield 11, 3) := by decide +kernel
theorem dX2_save_31 : decode cX2_save 31 = .ok (.arraylength, 1) := by decide +kernel
theorem dX2_save_32 : decode cX2_save 32 = .ok (.if_icmp .ge 26, 3) := by decide +kernel
theorem dX2_save_35 : decode cX2_save 35 = .ok (.aload_n 0, 1) := by decide +kernel
theorem dX2_save_36 : decode cX2_save 36 = .ok (.getfield 11, 3) := by decide +kernel
theorem dX2_save_39 : decode cX2_save 39 = .ok (.aload_n 0, 1) := by decide +kernel
theorem dX2_save_40 : decode cX2_save 40 = .ok (.getfield 18, 3) := by decide +kernel
theorem dX2_save_43 : decode cX2_save 43 = .ok (.aaload, 1) := by decide +kernel
theorem dX2_save_44 : decode cX2_save 44 = .ok (.aload_n 1, 1) := by decide +kernel
theorem dX2_save_45 : decode cX2_save 45 = .ok (.invokevirtual 25, 3) := by decide +kernel
theorem dX2_save_48 : decode cX2_save 48 = .ok (.aload_n 0, 1) := by decide +kernel
theorem dX2_save_49 : decode cX2_save 49 = .ok (.dup, 1) := by decide +kernel
theorem dX2_save_50 : decode cX2_save 50 = .ok (.getfield 18, 3) := by decide +kernel
theorem dX2_save_53 : decode cX2_save 53 = .ok (.iconst 1, 1) := by decide +kernel
theorem dX2_save_54 : decode cX2_save 54 = .ok (.iadd, 1) := by decide +kernel
theorem dX2_save_55 : decode cX2_save 55 = .ok (.putfield 18, 3) := by decide +kernel
theorem dX2_save_58 : decode cX2_save 58 = .ok (.return_, 1) := by decide +kernel
theorem dX2_dropOldest_0 : decode cX2_dropOldest 0 = .ok (.aload_n 0, 1) := by decide +kernel
theorem dX2_dropOldest_1 : decode cX2_dropOldest 1 = .ok (.getfield 11, 3) := by decide +kernel
theorem dX2_dropOldest_4 : decode cX2_dropOldest 4 = .ok (.iconst 0, 1) := by decide +kernel
theorem dX2_dropOldest_5 : decode cX2_dropOldest 5 = .ok (.aaload, 1) := by decide +kernel
theorem dX2_dropOldest_6 : decode cX2_dropOldest 6 = .ok (.astore_n 1, 1) := by decide +kernel
theorem dX2_dropOldest_7 : decode cX2_dropOldest 7 = .ok (.iconst 1, 1) := by decide +kernel
theorem dX2_dropOldest_8 : decode cX2_dropOldest 8 = .ok (.istore_n 2, 1) := by decide +kernel
theorem dX2_dropOldest_9 : decode cX2_dropOldest 9 = .ok (.iload_n 2, 1) := by decide +kernel
theorem dX2_dropOldest_10 : decode cX2_dropOldest 10 = .ok (.aload_n 0, 1) := by decide +kernel
theorem dX2_dropOldest_11 : decode cX2_dropOldest 11 = .ok (.getfield 11, 3) := by decide +kernel
theorem dX2_dropOldest_14 : decode cX2_dropOldest 14 = .ok (.arraylength, 1) := by decide +kernel
theorem dX2_dropOldest_15 : decode cX2_dropOldest 15 = .ok (.if_icmp .ge 23, 3) := by decide +kernel
theorem dX2_dropOldest_18 : decode cX2_dropOldest 18 = .ok (.aload_n 0, 1) := by decide +kernel
theorem dX2_dropOldest_19 : decode cX2_dropOldest 19 = .ok (.getfield 11, 3) := by decide +kernel
theorem dX2_dropOldest_22 : decode cX2_dropOldest 22 = .ok (.iload_n 2, 1) := by decide +kernel
theorem dX2_dropOldest_23 : decode cX2_dropOldest 23 = .ok (.iconst 1, 1) := by decide +kernel
theorem dX2_dropOldest_24 : decode cX2_dropOldest 24 = .ok (.isub, 1) := by decide +kernel
theorem dX2_dropOldest_25 : decode cX2_dropOldest 25 = .ok (.aload_n 0, 1) := by decide +kernel
theorem dX2_dropOldest_26 : decode cX2_dropOldest 26 = .ok (.getfield 11, 3) := by decide +kernel
theorem dX2_dropOldest_29 : decode cX2_dropOldest 29 = .ok (.iload_n 2, 1) := by decide +kernel
theorem dX2_dropOldest_30 : decode cX2_dropOldest 30 = .ok (.aaload, 1) := by decide +kernel
theorem dX2_dropOldest_31 : decode cX2_dropOldest 31 = .ok (.aastore, 1) := by decide +kernel
theorem dX2_dropOldest_32 : decode cX2_dropOldest 32 = .ok (.iinc 2 1, 3) := by decide +kernel
theorem dX2_dropOldest_35 : decode cX2_dropOldest 35 = .ok (.goto (-26), 3) := by decide +kernel
theorem dX2_dropOldest_38 : decode cX2_dropOldest 38 = .ok (.aload_n 0, 1) := by decide +kernel
theorem dX2_dropOldest_39 : decode cX2_dropOldest 39 = .ok (.getfield 11, 3) := by decide +kernel
theorem dX2_dropOldest_42 : decode cX2_dropOldest 42 = .ok (.aload_n 0, 1) := by decide +kernel
theorem dX2_dropOldest_43 : decode cX2_dropOldest 43 = .ok (.getfield 11, 3) := by decide +kernel
theorem dX2_dropOldest_46 : decode cX2_dropOldest 46 = .ok (.arraylength, 1) := by decide +kernel
theorem dX2_dropOldest_47 : decode cX2_dropOldest 47 = .ok (.iconst 1, 1) := by decide +kernel
theorem dX2_dropOldest_48 : decode cX2_dropOldest 48 = .ok (.isub, 1) := by decide +kernel
theorem dX2_dropOldest_49 : decode cX2_dropOldest 49 = .ok (.aload_n 1, 1) := by decide +kernel
theorem dX2_dropOldest_50 : decode cX2_dropOldest 50 = .ok (.aastore, 1) := by decide +kernel
theorem dX2_dropOldest_51 : decode cX2_dropOldest 51 = .ok (.aload_n 0, 1) := by decide +kernel
theorem dX2_dropOldest_52 : decode cX2_dropOldest 52 = .ok (.dup, 1) := by decide +kernel
theorem dX2_dropOldest_53 : decode cX2_dropOldest 53 = .ok (.getfield 18, 3) := by decide +kernel
theorem dX2_dropOldest_56 : decode cX2_dropOldest 56 = .ok (.iconst 1, 1) := by decide +kernel
theorem dX2_dropOldest_57 : decode cX2_dropOldest 57 = .ok (.isub, 1) := by decide +kernel
theorem dX2_dropOldest_58 : decode cX2_dropOldest 58 = .ok (.putfield 18, 3) := by decide +kernel
theorem dX2_dropOldest_61 : decode cX2_dropOldest 61 = .ok (.return_, 1) := by decide +kernel
set_option maxRecDepth 20000 in
theorem ggX2_restore_X0_copyFrom : GoodIn wsX2_restore wsX0_copyFrom := goodIn_r _ [7, 8, 9, 10, 11, 12, 13, 14, 15, 16, 17, 18, 19, 20, 21, 22, 23, 24, 25, 26, 27, 28, 29, 30, 31, 32, 33, 34, 35, 36, 37, 38, 39, 40, 41, 42, 43, 44, 45, 46, 47, 50, 51, 52, 53, 54, 55, 56, 57, 58, 59, 60, 61, 62, 63, 64, 65, 66, 67, 68, 69, 70, 71, 72, 73, 74, 75, 76] (by decide +kernel) (by decide +kernel)
set_option maxRecDepth 20000 in
theorem gX2_restore_X0_copyFrom : GoodIn wsX2_restore (wsV RX2 25 RX0 yX0_copyFrom wsX0_copyFrom) := goodIn_app (goodIn_of _ (by decide +kernel)) ggX2_restore_X0_copyFrom
theorem dX2_restore_0 : decode cX2_restore 0 = .ok (.aload_n 0, 1) := by decide +kernel
theorem dX2_restore_1 : decode cX2_restore 1 = .ok (.getfield 18, 3) := by decide +kernel
theorem dX2_restore_4 : decode cX2_restore 4 = .ok (.iconst 1, 1) := by decide +kernel
theorem dX2_restore_5 : decode cX2_restore 5 = .ok (.if_icmp .lt 38, 3) := by decide +kernel
theorem dX2_restore_8 : decode cX2_restore 8 = .ok (.aload_n 0, 1) := by decide +kernel
theorem dX2_restore_9 : decode cX2_restore 9 = .ok (.getfield 18, 3) := by decide +kernel
theorem dX2_restore_12 : decode cX2_restore 12 = .ok (.aload_n 0, 1) := by decide +kernel
theorem dX2_restore_13 : decode cX2_restore 13 = .ok (.getfield 11, 3) := by decide +kernel
theorem dX2_restore_16 : decode cX2_restore 16 = .ok (.arraylength, 1) := by decide +kernel
theorem dX2_restore_17 : decode cX2_restore 17 = .ok (.if_icmp .gt 26, 3) := by decide +kernel
theorem dX2_restore_20 : decode cX2_restore 20 = .ok (.aload_n 0, 1) := by decide +kernel
theorem dX2_restore_21 : decode cX2_restore 21 = .ok (.dup, 1) := by decide +kernel
theorem dX2_restore_22 : decode cX2_restore 22 = .ok (.getfield 18, 3) := by decide +kernel
theorem dX2_restore_25 : decode cX2_restore 25 = .ok (.iconst 1, 1) := by decide +kernel
theorem dX2_restore_26 : decode cX2_restore 26 = .ok (.isub, 1) := by decide +kernel
theorem dX2_restore_27 : decode cX2_restore 27 = .ok (.putfield 18, 3) := by decide +kernel
theorem dX2_restore_30 : decode cX2_restore 30 = .ok (.aload_n 1, 1) := by decide +kernel
theorem dX2_restore_31 : decode cX2_restore 31 = .ok (.aload_n 0, 1) := by decide +kernel
theorem dX2_restore_32 : decode cX2_restore 32 = .ok (.getfield 11, 3) := by decide +kernel
theorem dX2_restore_35 : decode cX2_restore 35 = .ok (.aload_n 0, 1) := by decide +kernel
theorem dX2_restore_36 : decode cX2_restore 36 = .ok (.getfield 18, 3) := by decide +kernel
theorem dX2_restore_39 : decode cX2_restore 39 = .ok (.aaload, 1) := by decide +kernel
theorem dX2_restore_40 : decode cX2_restore 40 = .ok (.invokevirtual 25, 3) := by decide +kernel
theorem dX2_restore_43 : decode cX2_restore 43 = .ok (.return_, 1) := by decide +kernel
theorem dX3_init_0 : decode cX3_init 0 = .ok (.aload_n 0, 1) := by decide +kernel
theorem dX3_init_1 : decode cX3_init 1 = .ok (.invokespecial 3, 3) := by decide +kernel
theorem dX3_init_4 : decode cX3_init 4 = .ok (.aload_n 0, 1) := by decide +kernel
theorem dX3_init_5 : decode cX3_init 5 = .ok (.iload_n 1, 1) := by decide +kernel
theorem dX3_init_6 : decode cX3_init 6 = .ok (.putfield 9, 3) := by decide +kernel
theorem dX3_init_9 : decode cX3_init 9 = .ok (.aload_n 0, 1) := by decide +kernel
theorem dX3_init_10 : decode cX3_init 10 = .ok (.iconst (-1), 1) := by decide +kernel
theorem dX3_init_11 : decode cX3_init 11 = .ok (.putfield 15, 3) := by decide +kernel
theorem dX3_init_14 : decode cX3_init 14 = .ok (.return_, 1) := by decide +kernel
theorem dX3_copyFrom_0 : decode cX3_copyFrom 0 = .ok (.aload_n 0, 1) := by decide +kernel
theorem dX3_copyFrom_1 : decode cX3_copyFrom 1 = .ok (.aload_n 1, 1) := by decide +kernel
theorem dX3_copyFrom_2 : decode cX3_copyFrom 2 = .ok (.getfield 15, 3) := by decide +kernel
theorem dX3_copyFrom_5 : decode cX3_copyFrom 5 = .ok (.putfield 15, 3) := by decide +kernel
theorem dX3_copyFrom_8 : decode cX3_copyFrom 8 = .ok (.aload_n 0, 1) := by decide +kernel
theorem dX3_copyFrom_9 : decode cX3_copyFrom 9 = .ok (.aload_n 1, 1) := by decide +kernel
theorem dX3_copyFrom_10 : decode cX3_copyFrom 10 = .ok (.getfield 18, 3) := by decide +kernel
theorem dX3_copyFrom_13 : decode cX3_copyFrom 13 = .ok (.putfield 18, 3) := by decide +kernel
theorem dX3_copyFrom_16 : decode cX3_copyFrom 16 = .ok (.return_, 1) := by decide +kernel
theorem dX3_daysLate_0 : decode cX3_daysLate 0 = .ok (.aload_n 0, 1) := by decide +kernel
theorem dX3_daysLate_1 : decode cX3_daysLate 1 = .ok (.getfield 15, 3) := by decide +kernel
theorem dX3_daysLate_4 : decode cX3_daysLate 4 = .ok (.iconst (-1), 1) := by decide +kernel
theorem dX3_daysLate_5 : decode cX3_daysLate 5 = .ok (.if_icmp .ne 7, 3) := by decide +kernel
theorem dX3_daysLate_8 : decode cX3_daysLate 8 = .ok (.iconst 0, 1) := by decide +kernel
theorem dX3_daysLate_9 : decode cX3_daysLate 9 = .ok (.goto 13, 3) := by decide +kernel
theorem dX3_daysLate_12 : decode cX3_daysLate 12 = .ok (.iconst 0, 1) := by decide +kernel
theorem dX3_daysLate_13 : decode cX3_daysLate 13 = .ok (.iload_n 1, 1) := by decide +kernel
theorem dX3_daysLate_14 : decode cX3_daysLate 14 = .ok (.aload_n 0, 1) := by decide +kernel
theorem dX3_daysLate_15 : decode cX3_daysLate 15 = .ok (.getfield 18, 3) := by decide +kernel
theorem dX3_daysLate_18 : decode cX3_daysLate 18 = .ok (.isub, 1) := by decide +kernel
theorem dX3_daysLate_19 : decode cX3_daysLate 19 = .ok (.invokestatic 21, 3) := by decide +kernel
theorem dX3_daysLate_22 : decode cX3_daysLate 22 = .ok (.ireturn, 1) := by decide +kernel
theorem dX4_init_0 : decode cX4_init 0 = .ok (.aload_n 0, 1) := by decide +kernel
theorem dX4_init_1 : decode cX4_init 1 = .ok (.invokespecial 3, 3) := by decide +kernel
theorem dX4_init_4 : decode cX4_init 4 = .ok (.aload_n 0, 1) := by decide +kernel
theorem dX4_init_5 : decode cX4_init 5 = .ok (.bipush 80, 2) := by decide +kernel
theorem dX4_init_7 : decode cX4_init 7 = .ok (.newarray .int, 2) := by decide +kernel
theorem dX4_init_9 : decode cX4_init 9 = .ok (.putfield 9, 3) := by decide +kernel
theorem dX4_init_12 : decode cX4_init 12 = .ok (.return_, 1) := by decide +kernel
set_option maxRecDepth 20000 in
theorem ggX5_init_X0_init : GoodIn wsX5_init wsX0_init := goodIn_r _ [14, 15, 2, 3, 16, 17, 18, 19, 20, 21, 22, 23, 24, 25, 26, 27, 28, 29, 30, 31, 32, 33, 34, 35, 36, 37, 38, 39, 40, 41, 42, 43, 44, 45, 46, 47, 51, 52, 53, 54, 55, 56, 57, 58, 59, 73, 74, 75, 76, 77, 78, 79, 80, 81, 82, 83, 84, 85, 86, 87, 88, 89, 90] (by decide +kernel) (by decide +kernel)
set_option maxRecDepth 20000 in
theorem gX5_init_X0_init : GoodIn wsX5_init (wsX0_init) := ggX5_init_X0_init
set_option maxRecDepth 20000 in
theorem ggX5_init_X6_init : GoodIn wsX5_init wsX6_init := goodIn_r _ [49, 50, 2, 3] (by decide +kernel) (by decide +kernel)
set_option maxRecDepth 20000 in
theorem gX5_init_X6_init_n20 : GoodIn wsX5_init (wsX6_init) := ggX5_init_X6_init
theorem dX5_init_0 : decode cX5_init 0 = .ok (.aload_n 0, 1) := by decide +kernel
theorem dX5_init_1 : decode cX5_init 1 = .ok (.invokespecial 3, 3) := by decide +kernel
theorem dX5_init_4 : decode cX5_init 4 = .ok (.aload_n 0, 1) := by decide +kernel
theorem dX5_init_5 : decode cX5_init 5 = .ok (.new 9, 3) := by decide +kernel
theorem dX5_init_8 : decode cX5_init 8 = .ok (.dup, 1) := by decide +kernel
theorem dX5_init_9 : decode cX5_init 9 = .ok (.invokespecial 11, 3) := by decide +kernel
theorem dX5_init_12 : decode cX5_init 12 = .ok (.putfield 12, 3) := by decide +kernel
theorem dX5_init_15 : decode cX5_init 15 = .ok (.aload_n 0, 1) := by decide +kernel
theorem dX5_init_16 : decode cX5_init 16 = .ok (.new 18, 3) := by decide +kernel
theorem dX5_init_19 : decode cX5_init 19 = .ok (.dup, 1) := by decide +kernel
theorem dX5_init_20 : decode cX5_init 20 = .ok (.invokespecial 20, 3) := by decide +kernel
theorem dX5_init_23 : decode cX5_init 23 = .ok (.putfield 21, 3) := by decide +kernel
theorem dX5_init_26 : decode cX5_init 26 = .ok (.return_, 1) := by decide +kernel
theorem dX6_init_0 : decode cX6_init 0 = .ok (.aload_n 0, 1) := by decide +kernel
theorem dX6_init_1 : decode cX6_init 1 = .ok (.invokespecial 3, 3) := by decide +kernel
theorem dX6_init_4 : decode cX6_init 4 = .ok (.return_, 1) := by decide +kernel
theorem dX6_takeHours_0 : decode cX6_takeHours 0 = .ok (.aload_n 0, 1) := by decide +kernel
theorem dX6_takeHours_1 : decode cX6_takeHours 1 = .ok (.iload_n 1, 1) := by decide +kernel
theorem dX6_takeHours_2 : decode cX6_takeHours 2 = .ok (.ifCond .ge 7, 3) := by decide +kernel
theorem dX6_takeHours_5 : decode cX6_takeHours 5 = .ok (.iconst (-1), 1) := by decide +kernel
theorem dX6_takeHours_6 : decode cX6_takeHours 6 = .ok (.goto 7, 3) := by decide +kernel
theorem dX6_takeHours_9 : decode cX6_takeHours 9 = .ok (.iload_n 1, 1) := by decide +kernel
theorem dX6_takeHours_10 : decode cX6_takeHours 10 = .ok (.bipush 100, 2) := by decide +kernel
theorem dX6_takeHours_12 : decode cX6_takeHours 12 = .ok (.idiv, 1) := by decide +kernel
theorem dX6_takeHours_13 : decode cX6_takeHours 13 = .ok (.putfield 9, 3) := by decide +kernel
theorem dX6_takeHours_16 : decode cX6_takeHours 16 = .ok (.aload_n 0, 1) := by decide +kernel
theorem dX6_takeHours_17 : decode cX6_takeHours 17 = .ok (.iload_n 1, 1) := by decide +kernel
theorem dX6_takeHours_18 : decode cX6_takeHours 18 = .ok (.ifCond .ge 7, 3) := by decide +kernel
theorem dX6_takeHours_21 : decode cX6_takeHours 21 = .ok (.iconst (-1), 1) := by decide +kernel
theorem dX6_takeHours_22 : decode cX6_takeHours 22 = .ok (.goto 7, 3) := by decide +kernel
theorem dX6_takeHours_25 : decode cX6_takeHours 25 = .ok (.iload_n 1, 1) := by decide +kernel
theorem dX6_takeHours_26 : decode cX6_takeHours 26 = .ok (.bipush 100, 2) := by decide +kernel
theorem dX6_takeHours_28 : decode cX6_takeHours 28 = .ok (.irem, 1) := by decide +kernel
theorem dX6_takeHours_29 : decode cX6_takeHours 29 = .ok (.putfield 15, 3) := by decide +kernel
theorem dX6_takeHours_32 : decode cX6_takeHours 32 = .ok (.return_, 1) := by decide +kernel
theorem dX6_takeSeries_0 : decode cX6_takeSeries 0 = .ok (.aload_n 0, 1) := by decide +kernel
theorem dX6_takeSeries_1 : decode cX6_takeSeries 1 = .ok (.iload_n 1, 1) := by decide +kernel
theorem dX6_takeSeries_2 : decode cX6_takeSeries 2 = .ok (.putfield 18, 3) := by decide +kernel
theorem dX6_takeSeries_5 : decode cX6_takeSeries 5 = .ok (.aload_n 0, 1) := by decide +kernel
theorem dX6_takeSeries_6 : decode cX6_takeSeries 6 = .ok (.iload_n 2, 1) := by decide +kernel
theorem dX6_takeSeries_7 : decode cX6_takeSeries 7 = .ok (.putfield 21, 3) := by decide +kernel
theorem dX6_takeSeries_10 : decode cX6_takeSeries 10 = .ok (.aload_n 0, 1) := by decide +kernel
theorem dX6_takeSeries_11 : decode cX6_takeSeries 11 = .ok (.iload_n 3, 1) := by decide +kernel
theorem dX6_takeSeries_12 : decode cX6_takeSeries 12 = .ok (.putfield 24, 3) := by decide +kernel
theorem dX6_takeSeries_15 : decode cX6_takeSeries 15 = .ok (.return_, 1) := by decide +kernel
theorem dX6_isInRange_0 : decode cX6_isInRange 0 = .ok (.aload_n 0, 1) := by decide +kernel
theorem dX6_isInRange_1 : decode cX6_isInRange 1 = .ok (.getfield 18, 3) := by decide +kernel
theorem dX6_isInRange_4 : decode cX6_isInRange 4 = .ok (.iload_n 1, 1) := by decide +kernel
theorem dX6_isInRange_5 : decode cX6_isInRange 5 = .ok (.if_icmp .lt 78, 3) := by decide +kernel
theorem dX6_isInRange_8 : decode cX6_isInRange 8 = .ok (.aload_n 0, 1) := by decide +kernel
theorem dX6_isInRange_9 : decode cX6_isInRange 9 = .ok (.getfield 18, 3) := by decide +kernel
theorem dX6_isInRange_12 : decode cX6_isInRange 12 = .ok (.sipush 364, 3) := by decide +kernel
theorem dX6_isInRange_15 : decode cX6_isInRange 15 = .ok (.if_icmp .gt 68, 3) := by decide +kernel
theorem dX6_isInRange_18 : decode cX6_isInRange 18 = .ok (.aload_n 0, 1) := by decide +kernel
theorem dX6_isInRange_19 : decode cX6_isInRange 19 = .ok (.getfield 9, 3) := by decide +kernel
theorem dX6_isInRange_22 : decode cX6_isInRange 22 = .ok (.ifCond .lt 61, 3) := by decide +kernel
theorem dX6_isInRange_25 : decode cX6_isInRange 25 = .ok (.aload_n 0, 1) := by decide +kernel
theorem dX6_isInRange_26 : decode cX6_isInRange 26 = .ok (.getfield 9, 3) := by decide +kernel
theorem dX6_isInRange_29 : decode cX6_isInRange 29 = .ok (.aload_n 0, 1) := by decide +kernel
theorem dX6_isInRange_30 : decode cX6_isInRange 30 = .ok (.getfield 15, 3) := by decide +kernel
theorem dX6_isInRange_33 : decode cX6_isInRange 33 = .ok (.if_icmp .ge 50, 3) := by decide +kernel
theorem dX6_isInRange_36 : decode cX6_isInRange 36 = .ok (.aload_n 0, 1) := by decide +kernel
theorem dX6_isInRange_37 : decode cX6_isInRange 37 = .ok (.getfield 15, 3) := by decide +kernel
theorem dX6_isInRange_40 : decode cX6_isInRange 40 = .ok (.bipush 24, 2) := by decide +kernel
theorem dX6_isInRange_42 : decode cX6_isInRange 42 = .ok (.if_icmp .gt 41, 3) := by decide +kernel
theorem dX6_isInRange_45 : decode cX6_isInRange 45 = .ok (.aload_n 0, 1) := by decide +kernel
theorem dX6_isInRange_46 : decode cX6_isInRange 46 = .ok (.getfield 21, 3) := by decide +kernel
theorem dX6_isInRange_49 : decode cX6_isInRange 49 = .ok (.iconst 1, 1) := by decide +kernel
theorem dX6_isInRange_50 : decode cX6_isInRange 50 = .ok (.if_icmp .lt 33, 3) := by decide +kernel
theorem dX6_isInRange_53 : decode cX6_isInRange 53 = .ok (.aload_n 0, 1) := by decide +kernel
theorem dX6_isInRange_54 : decode cX6_isInRange 54 = .ok (.getfield 21, 3) := by decide +kernel
theorem dX6_isInRange_57 : decode cX6_isInRange 57 = .ok (.bipush 20, 2) := by decide +kernel
theorem dX6_isInRange_59 : decode cX6_isInRange 59 = .ok (.if_icmp .gt 24, 3) := by decide +kernel
theorem dX6_isInRange_62 : decode cX6_isInRange 62 = .ok (.aload_n 0, 1) := by decide +kernel
theorem dX6_isInRange_63 : decode cX6_isInRange 63 = .ok (.getfield 24, 3) := by decide +kernel
theorem dX6_isInRange_66 : decode cX6_isInRange 66 = .ok (.iconst 1, 1) := by decide +kernel
theorem dX6_isInRange_67 : decode cX6_isInRange 67 = .ok (.if_icmp .lt 16, 3) := by decide +kernel
theorem dX6_isInRange_70 : decode cX6_isInRange 70 = .ok (.aload_n 0, 1) := by decide +kernel
theorem dX6_isInRange_71 : decode cX6_isInRange 71 = .ok (.getfield 24, 3) := by decide +kernel
theorem dX6_isInRange_74 : decode cX6_isInRange 74 = .ok (.bipush 60, 2) := by decide +kernel
theorem dX6_isInRange_76 : decode cX6_isInRange 76 = .ok (.if_icmp .gt 7, 3) := by decide +kernel
theorem dX6_isInRange_79 : decode cX6_isInRange 79 = .ok (.iconst 1, 1) := by decide +kernel
theorem dX6_isInRange_80 : decode cX6_isInRange 80 = .ok (.goto 4, 3) := by decide +kernel
theorem dX6_isInRange_83 : decode cX6_isInRange 83 = .ok (.iconst 0, 1) := by decide +kernel
theorem dX6_isInRange_84 : decode cX6_isInRange 84 = .ok (.ireturn, 1) := by decide +kernel
theorem dX6_lastDay_0 : decode cX6_lastDay 0 = .ok (.aload_n 0, 1) := by decide +kernel
theorem dX6_lastDay_1 : decode cX6_lastDay 1 = .ok (.getfield 18, 3) := by decide +kernel
theorem dX6_lastDay_4 : decode cX6_lastDay 4 = .ok (.aload_n 0, 1) := by decide +kernel
theorem dX6_lastDay_5 : decode cX6_lastDay 5 = .ok (.getfield 21, 3) := by decide +kernel
theorem dX6_lastDay_8 : decode cX6_lastDay 8 = .ok (.iconst 1, 1) := by decide +kernel
theorem dX6_lastDay_9 : decode cX6_lastDay 9 = .ok (.isub, 1) := by decide +kernel
theorem dX6_lastDay_10 : decode cX6_lastDay 10 = .ok (.aload_n 0, 1) := by decide +kernel
theorem dX6_lastDay_11 : decode cX6_lastDay 11 = .ok (.getfield 24, 3) := by decide +kernel
theorem dX6_lastDay_14 : decode cX6_lastDay 14 = .ok (.imul, 1) := by decide +kernel
theorem dX6_lastDay_15 : decode cX6_lastDay 15 = .ok (.iadd, 1) := by decide +kernel
theorem dX6_lastDay_16 : decode cX6_lastDay 16 = .ok (.ireturn, 1) := by decide +kernel
set_option maxRecDepth 20000 in
theorem ggX7_init_X0_init : GoodIn wsX7_init wsX0_init := goodIn_r _ [27, 28, 2, 3, 29, 30, 31, 32, 33, 34, 35, 36, 37, 38, 39, 40, 41, 42, 43, 44, 45, 46, 47, 48, 49, 50, 51, 52, 53, 54, 55, 56, 57, 58, 59, 60, 85, 86, 87, 88, 89, 90, 91, 92, 93, 118, 119, 120, 121, 122, 123, 124, 125, 126, 127, 128, 129, 130, 131, 132, 133, 134, 135] (by decide +kernel) (by decide +kernel)
set_option maxRecDepth 20000 in
theorem gX7_init_X0_init : GoodIn wsX7_init (wsX0_init) := ggX7_init_X0_init
set_option maxRecDepth 20000 in
theorem ggX7_init_X2_init : GoodIn wsX7_init wsX2_init := goodIn_r _ [63, 64, 2, 3, 65, 66, 5, 6, 67, 26, 27, 28, 29, 30, 31, 32, 33, 34, 35, 36, 37, 38, 39, 40, 41, 42, 43, 44, 45, 46, 47, 48, 49, 50, 51, 52, 53, 54, 55, 56, 57, 58, 59, 60, 100, 101, 85, 86, 87, 88, 89, 90, 91, 92, 93, 118, 119, 120, 121, 122, 123, 124, 125, 126, 127, 128, 129, 130, 131, 132, 133, 134, 135] (by decide +kernel) (by decide +kernel)
set_option maxRecDepth 20000 in
theorem gX7_init_X2_init : GoodIn wsX7_init (wsX2_init) := ggX7_init_X2_init
set_option maxRecDepth 20000 in
theorem ggX7_init_X4_init : GoodIn wsX7_init wsX4_init := goodIn_r _ [70, 71, 2, 3, 36, 72, 102, 103, 104] (by decide +kernel) (by decide +kernel)
set_option maxRecDepth 20000 in
theorem gX7_init_X4_init : GoodIn wsX7_init (wsX4_init) := ggX7_init_X4_init
set_option maxRecDepth 20000 in
theorem ggX7_init_X5_init : GoodIn wsX7_init wsX5_init := goodIn_r _ [75, 76, 2, 3, 77, 5, 6, 78, 79, 21, 22, 80, 81, 26, 27, 28, 29, 30, 31, 32, 33, 34, 35, 36, 37, 38, 39, 40, 41, 42, 43, 44, 45, 46, 47, 48, 49, 50, 51, 52, 53, 54, 55, 56, 57, 58, 59, 60, 82, 83, 84, 85, 86, 87, 88, 89, 90, 91, 92, 93, 105, 106, 107, 108, 109, 110, 111, 112, 113, 114, 115, 116, 117, 118, 119, 120, 121, 122, 123, 124, 125, 126, 127, 128, 129, 130, 131, 132, 133, 134, 135] (by decide +kernel) (by decide +kernel)
set_option maxRecDepth 20000 in
theorem gX7_init_X5_init : GoodIn wsX7_init (wsX5_init) := ggX7_init_X5_init
set_option maxRecDepth 20000 in
theorem ggX7_init_X6_init : GoodIn wsX7_init wsX6_init := goodIn_r _ [83, 84, 2, 3] (by decide +kernel) (by decide +kernel)
set_option maxRecDepth 20000 in
theorem gX7_init_X6_init_n39 : GoodIn wsX7_init (wsX6_init) := ggX7_init_X6_init
theorem dX7_init_0 : decode cX7_init 0 = .ok (.aload_n 0, 1) := by decide +kernel
theorem dX7_init_1 : decode cX7_init 1 = .ok (.invokespecial 1, 3) := by decide +kernel
theorem dX7_init_4 : decode cX7_init 4 = .ok (.aload_n 0, 1) := by decide +kernel
theorem dX7_init_5 : decode cX7_init 5 = .ok (.new 7, 3) := by decide +kernel
theorem dX7_init_8 : decode cX7_init 8 = .ok (.dup, 1) := by decide +kernel
theorem dX7_init_9 : decode cX7_init 9 = .ok (.invokespecial 9, 3) := by decide +kernel
theorem dX7_init_12 : decode cX7_init 12 = .ok (.putfield 10, 3) := by decide +kernel
theorem dX7_init_15 : decode cX7_init 15 = .ok (.aload_n 0, 1) := by decide +kernel
theorem dX7_init_16 : decode cX7_init 16 = .ok (.new 16, 3) := by decide +kernel
theorem dX7_init_19 : decode cX7_init 19 = .ok (.dup, 1) := by decide +kernel
theorem dX7_init_20 : decode cX7_init 20 = .ok (.invokespecial 18, 3) := by decide +kernel
theorem dX7_init_23 : decode cX7_init 23 = .ok (.putfield 19, 3) := by decide +kernel
theorem dX7_init_26 : decode cX7_init 26 = .ok (.aload_n 0, 1) := by decide +kernel
theorem dX7_init_27 : decode cX7_init 27 = .ok (.new 23, 3) := by decide +kernel
theorem dX7_init_30 : decode cX7_init 30 = .ok (.dup, 1) := by decide +kernel
theorem dX7_init_31 : decode cX7_init 31 = .ok (.invokespecial 25, 3) := by decide +kernel
theorem dX7_init_34 : decode cX7_init 34 = .ok (.putfield 26, 3) := by decide +kernel
theorem dX7_init_37 : decode cX7_init 37 = .ok (.aload_n 0, 1) := by decide +kernel
theorem dX7_init_38 : decode cX7_init 38 = .ok (.new 30, 3) := by decide +kernel
theorem dX7_init_41 : decode cX7_init 41 = .ok (.dup, 1) := by decide +kernel
theorem dX7_init_42 : decode cX7_init 42 = .ok (.invokespecial 32, 3) := by decide +kernel
theorem dX7_init_45 : decode cX7_init 45 = .ok (.putfield 33, 3) := by decide +kernel
theorem dX7_init_48 : decode cX7_init 48 = .ok (.aload_n 0, 1) := by decide +kernel
theorem dX7_init_49 : decode cX7_init 49 = .ok (.new 37, 3) := by decide +kernel
theorem dX7_init_52 : decode cX7_init 52 = .ok (.dup, 1) := by decide +kernel
theorem dX7_init_53 : decode cX7_init 53 = .ok (.invokespecial 39, 3) := by decide +kernel
theorem dX7_init_56 : decode cX7_init 56 = .ok (.putfield 40, 3) := by decide +kernel
theorem dX7_init_59 : decode cX7_init 59 = .ok (.aload_n 0, 1) := by decide +kernel
theorem dX7_init_60 : decode cX7_init 60 = .ok (.iconst (-1), 1) := by decide +kernel
theorem dX7_init_61 : decode cX7_init 61 = .ok (.putfield 44, 3) := by decide +kernel
theorem dX7_init_64 : decode cX7_init 64 = .ok (.return_, 1) := by decide +kernel
set_option maxRecDepth 20000 in
theorem ggX7_addHirer_X2_save : GoodIn wsX7_addHirer wsX2_save := goodIn_r _ [9, 10, 11, 12, 13, 14, 8, 15, 16, 17, 18, 19, 20, 21, 22, 23, 24, 25, 26, 27, 28, 29, 30, 31, 32, 33, 34, 35, 36, 37, 38, 39, 40, 41, 42, 43, 44, 45, 46, 47, 48, 49, 50, 51, 52, 53, 54, 55, 56, 57, 58, 59, 60, 76, 77, 67, 68, 69, 70, 71, 72, 73, 74, 75, 78, 79, 80, 81, 82, 83, 84, 85, 86, 87, 88, 89, 90, 91, 92, 93, 94, 95] (by decide +kernel) (by decide +kernel)
set_option maxRecDepth 20000 in
theorem gX7_addHirer_X2_save : GoodIn wsX7_addHirer (wsV RX7 52 RX2 yX2_save wsX2_save) := goodIn_app (goodIn_of _ (by decide +kernel)) ggX7_addHirer_X2_save
theorem dX7_addHirer_0 : decode cX7_addHirer 0 = .ok (.aload_n 0, 1) := by decide +kernel
theorem dX7_addHirer_1 : decode cX7_addHirer 1 = .ok (.getfield 10, 3) := by decide +kernel
theorem dX7_addHirer_4 : decode cX7_addHirer 4 = .ok (.getfield 48, 3) := by decide +kernel
theorem dX7_addHirer_7 : decode cX7_addHirer 7 = .ok (.bipush 10, 2) := by decide +kernel
theorem dX7_addHirer_9 : decode cX7_addHirer 9 = .ok (.if_icmp .lt 6, 3) := by decide +kernel
theorem dX7_addHirer_12 : decode cX7_addHirer 12 = .ok (.ldc 51, 2) := by decide +kernel
theorem dX7_addHirer_14 : decode cX7_addHirer 14 = .ok (.ireturn, 1) := by decide +kernel
theorem dX7_addHirer_15 : decode cX7_addHirer 15 = .ok (.aload_n 0, 1) := by decide +kernel
theorem dX7_addHirer_16 : decode cX7_addHirer 16 = .ok (.getfield 19, 3) := by decide +kernel
theorem dX7_addHirer_19 : decode cX7_addHirer 19 = .ok (.aload_n 0, 1) := by decide +kernel
theorem dX7_addHirer_20 : decode cX7_addHirer 20 = .ok (.getfield 10, 3) := by decide +kernel
theorem dX7_addHirer_23 : decode cX7_addHirer 23 = .ok (.invokevirtual 52, 3) := by decide +kernel
theorem dX7_addHirer_26 : decode cX7_addHirer 26 = .ok (.aload_n 0, 1) := by decide +kernel
theorem dX7_addHirer_27 : decode cX7_addHirer 27 = .ok (.getfield 10, 3) := by decide +kernel
theorem dX7_addHirer_30 : decode cX7_addHirer 30 = .ok (.dup, 1) := by decide +kernel
theorem dX7_addHirer_31 : decode cX7_addHirer 31 = .ok (.getfield 48, 3) := by decide +kernel
theorem dX7_addHirer_34 : decode cX7_addHirer 34 = .ok (.iconst 1, 1) := by decide +kernel
theorem dX7_addHirer_35 : decode cX7_addHirer 35 = .ok (.iadd, 1) := by decide +kernel
theorem dX7_addHirer_36 : decode cX7_addHirer 36 = .ok (.putfield 48, 3) := by decide +kernel
theorem dX7_addHirer_39 : decode cX7_addHirer 39 = .ok (.aload_n 0, 1) := by decide +kernel
theorem dX7_addHirer_40 : decode cX7_addHirer 40 = .ok (.getfield 10, 3) := by decide +kernel
theorem dX7_addHirer_43 : decode cX7_addHirer 43 = .ok (.getfield 48, 3) := by decide +kernel
theorem dX7_addHirer_46 : decode cX7_addHirer 46 = .ok (.iconst 1, 1) := by decide +kernel
theorem dX7_addHirer_47 : decode cX7_addHirer 47 = .ok (.isub, 1) := by decide +kernel
theorem dX7_addHirer_48 : decode cX7_addHirer 48 = .ok (.ireturn, 1) := by decide +kernel
set_option maxRecDepth 20000 in
theorem ggX7_hirer_X0_isHirer : GoodIn wsX7_hirer wsX0_isHirer := goodIn_r _ [9, 10, 58, 59, 60, 61, 62, 63, 64, 65, 66] (by decide +kernel) (by decide +kernel)
set_option maxRecDepth 20000 in
theorem gX7_hirer_X0_isHirer : GoodIn wsX7_hirer (wsV RX7 56 RX0 yX0_isHirer wsX0_isHirer) := goodIn_app (goodIn_of _ (by decide +kernel)) ggX7_hirer_X0_isHirer
set_option maxRecDepth 20000 in
theorem ggX7_hirer_X0_hiresOf : GoodIn wsX7_hirer wsX0_hiresOf := goodIn_r _ [14, 15, 16, 58, 59, 60, 61, 62, 63, 64, 65, 66, 67, 68, 69, 70, 71, 72, 73, 74, 75, 76, 77, 78, 79, 80, 81] (by decide +kernel) (by decide +kernel)
set_option maxRecDepth 20000 in
theorem gX7_hirer_X0_hiresOf : GoodIn wsX7_hirer (wsV RX7 68 RX0 yX0_hiresOf wsX0_hiresOf) := goodIn_app (goodIn_of _ (by decide +kernel)) ggX7_hirer_X0_hiresOf
set_option maxRecDepth 20000 in
theorem ggX7_hirer_X0_plannedOf : GoodIn wsX7_hirer wsX0_plannedOf := goodIn_r _ [20, 15, 16, 21, 22, 23, 24, 25, 26, 27, 28, 29, 30, 31, 32, 33, 34, 35, 58, 59, 60, 61, 62, 63, 64, 65, 66, 67, 68, 69, 70, 71, 72, 73, 74, 75, 76, 77, 78, 79, 80, 81] (by decide +kernel) (by decide +kernel)
set_option maxRecDepth 20000 in
theorem gX7_hirer_X0_plannedOf : GoodIn wsX7_hirer (wsV RX7 72 RX0 yX0_plannedOf wsX0_plannedOf) := goodIn_app (goodIn_of _ (by decide +kernel)) ggX7_hirer_X0_plannedOf
set_option maxRecDepth 20000 in
theorem ggX7_hirer_X0_keysOf : GoodIn wsX7_hirer wsX0_keysOf := goodIn_r _ [39, 15, 16, 40, 41, 42, 43, 8, 44, 45, 46, 58, 59, 60, 61, 62, 63, 64, 65, 66, 67, 68, 69, 70, 71, 72, 73, 74, 75, 76, 77, 78, 79, 80, 81, 82, 83, 84] (by decide +kernel) (by decide +kernel)
set_option maxRecDepth 20000 in
theorem gX7_hirer_X0_keysOf : GoodIn wsX7_hirer (wsV RX7 75 RX0 yX0_keysOf wsX0_keysOf) := goodIn_app (goodIn_of _ (by decide +kernel)) ggX7_hirer_X0_keysOf
set_option maxRecDepth 20000 in
theorem ggX7_hirer_X0_faultsOf : GoodIn wsX7_hirer wsX0_faultsOf := goodIn_r _ [50, 15, 16, 51, 58, 59, 60, 61, 62, 63, 64, 65, 66, 67, 68, 69, 70, 71, 72, 73, 74, 75, 76, 77, 78, 79, 80, 81] (by decide +kernel) (by decide +kernel)
set_option maxRecDepth 20000 in
theorem gX7_hirer_X0_faultsOf : GoodIn wsX7_hirer (wsV RX7 78 RX0 yX0_faultsOf wsX0_faultsOf) := goodIn_app (goodIn_of _ (by decide +kernel)) ggX7_hirer_X0_faultsOf
theorem dX7_hirer_0 : decode cX7_hirer 0 = .ok (.aload_n 0, 1) := by decide +kernel
theorem dX7_hirer_1 : decode cX7_hirer 1 = .ok (.getfield 10, 3) := by decide +kernel
theorem dX7_hirer_4 : decode cX7_hirer 4 = .ok (.iload_n 1, 1) := by decide +kernel
theorem dX7_hirer_5 : decode cX7_hirer 5 = .ok (.invokevirtual 56, 3) := by decide +kernel
theorem dX7_hirer_8 : decode cX7_hirer 8 = .ok (.ifCond .ne 6, 3) := by decide +kernel
theorem dX7_hirer_11 : decode cX7_hirer 11 = .ok (.ldc 60, 2) := by decide +kernel
theorem dX7_hirer_13 : decode cX7_hirer 13 = .ok (.ireturn, 1) := by decide +kernel
theorem dX7_hirer_14 : decode cX7_hirer 14 = .ok (.iload_n 2, 1) := by decide +kernel
theorem dX7_hirer_15 : decode cX7_hirer 15 = .ok (.tableswitch 117 0 6 #[41, 51, 61, 81, 90, 99, 108], 41) := by decide +kernel
theorem dX7_hirer_56 : decode cX7_hirer 56 = .ok (.aload_n 0, 1) := by decide +kernel
theorem dX7_hirer_57 : decode cX7_hirer 57 = .ok (.getfield 10, 3) := by decide +kernel
theorem dX7_hirer_60 : decode cX7_hirer 60 = .ok (.getfield 61, 3) := by decide +kernel
theorem dX7_hirer_63 : decode cX7_hirer 63 = .ok (.iload_n 1, 1) := by decide +kernel
theorem dX7_hirer_64 : decode cX7_hirer 64 = .ok (.iaload, 1) := by decide +kernel
theorem dX7_hirer_65 : decode cX7_hirer 65 = .ok (.ireturn, 1) := by decide +kernel
theorem dX7_hirer_66 : decode cX7_hirer 66 = .ok (.aload_n 0, 1) := by decide +kernel
theorem dX7_hirer_67 : decode cX7_hirer 67 = .ok (.getfield 10, 3) := by decide +kernel
theorem dX7_hirer_70 : decode cX7_hirer 70 = .ok (.getfield 65, 3) := by decide +kernel
theorem dX7_hirer_73 : decode cX7_hirer 73 = .ok (.iload_n 1, 1) := by decide +kernel
theorem dX7_hirer_74 : decode cX7_hirer 74 = .ok (.iaload, 1) := by decide +kernel
theorem dX7_hirer_75 : decode cX7_hirer 75 = .ok (.ireturn, 1) := by decide +kernel
theorem dX7_hirer_76 : decode cX7_hirer 76 = .ok (.aload_n 0, 1) := by decide +kernel
theorem dX7_hirer_77 : decode cX7_hirer 77 = .ok (.getfield 10, 3) := by decide +kernel
theorem dX7_hirer_80 : decode cX7_hirer 80 = .ok (.getfield 61, 3) := by decide +kernel
theorem dX7_hirer_83 : decode cX7_hirer 83 = .ok (.iload_n 1, 1) := by decide +kernel
theorem dX7_hirer_84 : decode cX7_hirer 84 = .ok (.iaload, 1) := by decide +kernel
theorem dX7_hirer_85 : decode cX7_hirer 85 = .ok (.aload_n 0, 1) := by decide +kernel
theorem dX7_hirer_86 : decode cX7_hirer 86 = .ok (.getfield 10, 3) := by decide +kernel
theorem dX7_hirer_89 : decode cX7_hirer 89 = .ok (.getfield 65, 3) := by decide +kernel
theorem dX7_hirer_92 : decode cX7_hirer 92 = .ok (.iload_n 1, 1) := by decide +kernel
theorem dX7_hirer_93 : decode cX7_hirer 93 = .ok (.iaload, 1) := by decide +kernel
theorem dX7_hirer_94 : decode cX7_hirer 94 = .ok (.isub, 1) := by decide +kernel
theorem dX7_hirer_95 : decode cX7_hirer 95 = .ok (.ireturn, 1) := by decide +kernel
theorem dX7_hirer_96 : decode cX7_hirer 96 = .ok (.aload_n 0, 1) := by decide +kernel
theorem dX7_hirer_97 : decode cX7_hirer 97 = .ok (.getfield 10, 3) := by decide +kernel
theorem dX7_hirer_100 : decode cX7_hirer 100 = .ok (.iload_n 1, 1) := by decide +kernel
theorem dX7_hirer_101 : decode cX7_hirer 101 = .ok (.invokevirtual 68, 3) := by decide +kernel
theorem dX7_hirer_104 : decode cX7_hirer 104 = .ok (.ireturn, 1) := by decide +kernel
theorem dX7_hirer_105 : decode cX7_hirer 105 = .ok (.aload_n 0, 1) := by decide +kernel
theorem dX7_hirer_106 : decode cX7_hirer 106 = .ok (.getfield 10, 3) := by decide +kernel
theorem dX7_hirer_109 : decode cX7_hirer 109 = .ok (.iload_n 1, 1) := by decide +kernel
theorem dX7_hirer_110 : decode cX7_hirer 110 = .ok (.invokevirtual 72, 3) := by decide +kernel
theorem dX7_hirer_113 : decode cX7_hirer 113 = .ok (.ireturn, 1) := by decide +kernel
theorem dX7_hirer_114 : decode cX7_hirer 114 = .ok (.aload_n 0, 1) := by decide +kernel
theorem dX7_hirer_115 : decode cX7_hirer 115 = .ok (.getfield 10, 3) := by decide +kernel
theorem dX7_hirer_118 : decode cX7_hirer 118 = .ok (.iload_n 1, 1) := by decide +kernel
theorem dX7_hirer_119 : decode cX7_hirer 119 = .ok (.invokevirtual 75, 3) := by decide +kernel
theorem dX7_hirer_122 : decode cX7_hirer 122 = .ok (.ireturn, 1) := by decide +kernel
theorem dX7_hirer_123 : decode cX7_hirer 123 = .ok (.aload_n 0, 1) := by decide +kernel
theorem dX7_hirer_124 : decode cX7_hirer 124 = .ok (.getfield 10, 3) := by decide +kernel
theorem dX7_hirer_127 : decode cX7_hirer 127 = .ok (.iload_n 1, 1) := by decide +kernel
theorem dX7_hirer_128 : decode cX7_hirer 128 = .ok (.invokevirtual 78, 3) := by decide +kernel
theorem dX7_hirer_131 : decode cX7_hirer 131 = .ok (.ireturn, 1) := by decide +kernel
theorem dX7_hirer_132 : decode cX7_hirer 132 = .ok (.ldc 60, 2) := by decide +kernel
theorem dX7_hirer_134 : decode cX7_hirer 134 = .ok (.ireturn, 1) := by decide +kernel
set_option maxRecDepth 20000 in
theorem ggX7_pay_X0_isHirer : GoodIn wsX7_pay wsX0_isHirer := goodIn_r _ [13, 14, 80, 81, 82, 83, 84, 85, 86, 87, 88] (by decide +kernel) (by decide +kernel)
set_option maxRecDepth 20000 in
theorem gX7_pay_X0_isHirer : GoodIn wsX7_pay (wsV RX7 56 RX0 yX0_isHirer wsX0_isHirer) := goodIn_app (goodIn_of _ (by decide +kernel)) ggX7_pay_X0_isHirer
