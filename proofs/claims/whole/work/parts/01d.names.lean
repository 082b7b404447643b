theorem dX4_isDigitHere_19 : decode cX4_isDigitHere 19 = .ok (.goto 4, 3) := by decide +kernel
theorem dX4_isDigitHere_22 : decode cX4_isDigitHere 22 = .ok (.iconst 0, 1) := by decide +kernel
theorem dX4_isDigitHere_23 : decode cX4_isDigitHere 23 = .ok (.ireturn, 1) := by decide +kernel
set_option maxRecDepth 20000 in
theorem ggX4_skip_X4_here : GoodIn wsX4_skip wsX4_here := goodIn_r _ [6, 1, 7, 8, 9, 10, 11] (by decide +kernel) (by decide +kernel)
set_option maxRecDepth 20000 in
theorem gX4_skip_X4_here : GoodIn wsX4_skip (wsV RX4 71 RX4 yX4_here wsX4_here) := goodIn_app (goodIn_of _ (by decide +kernel)) ggX4_skip_X4_here
theorem dX4_skip_0 : decode cX4_skip 0 = .ok (.aload_n 0, 1) := by decide +kernel
theorem dX4_skip_1 : decode cX4_skip 1 = .ok (.invokevirtual 71, 3) := by decide +kernel
theorem dX4_skip_4 : decode cX4_skip 4 = .ok (.iload_n 1, 1) := by decide +kernel
theorem dX4_skip_5 : decode cX4_skip 5 = .ok (.if_icmp .eq 5, 3) := by decide +kernel
theorem dX4_skip_8 : decode cX4_skip 8 = .ok (.iconst 0, 1) := by decide +kernel
theorem dX4_skip_9 : decode cX4_skip 9 = .ok (.ireturn, 1) := by decide +kernel
theorem dX4_skip_10 : decode cX4_skip 10 = .ok (.aload_n 0, 1) := by decide +kernel
theorem dX4_skip_11 : decode cX4_skip 11 = .ok (.dup, 1) := by decide +kernel
theorem dX4_skip_12 : decode cX4_skip 12 = .ok (.getfield 19, 3) := by decide +kernel
theorem dX4_skip_15 : decode cX4_skip 15 = .ok (.iconst 1, 1) := by decide +kernel
theorem dX4_skip_16 : decode cX4_skip 16 = .ok (.iadd, 1) := by decide +kernel
theorem dX4_skip_17 : decode cX4_skip 17 = .ok (.putfield 19, 3) := by decide +kernel
theorem dX4_skip_20 : decode cX4_skip 20 = .ok (.iconst 1, 1) := by decide +kernel
theorem dX4_skip_21 : decode cX4_skip 21 = .ok (.ireturn, 1) := by decide +kernel
theorem dX4_here_0 : decode cX4_here 0 = .ok (.aload_n 0, 1) := by decide +kernel
theorem dX4_here_1 : decode cX4_here 1 = .ok (.getfield 19, 3) := by decide +kernel
theorem dX4_here_4 : decode cX4_here 4 = .ok (.ifCond .lt 38, 3) := by decide +kernel
theorem dX4_here_7 : decode cX4_here 7 = .ok (.aload_n 0, 1) := by decide +kernel
theorem dX4_here_8 : decode cX4_here 8 = .ok (.getfield 19, 3) := by decide +kernel
theorem dX4_here_11 : decode cX4_here 11 = .ok (.aload_n 0, 1) := by decide +kernel
theorem dX4_here_12 : decode cX4_here 12 = .ok (.getfield 15, 3) := by decide +kernel
theorem dX4_here_15 : decode cX4_here 15 = .ok (.if_icmp .ge 27, 3) := by decide +kernel
theorem dX4_here_18 : decode cX4_here 18 = .ok (.aload_n 0, 1) := by decide +kernel
theorem dX4_here_19 : decode cX4_here 19 = .ok (.getfield 19, 3) := by decide +kernel
theorem dX4_here_22 : decode cX4_here 22 = .ok (.aload_n 0, 1) := by decide +kernel
theorem dX4_here_23 : decode cX4_here 23 = .ok (.getfield 9, 3) := by decide +kernel
theorem dX4_here_26 : decode cX4_here 26 = .ok (.arraylength, 1) := by decide +kernel
theorem dX4_here_27 : decode cX4_here 27 = .ok (.if_icmp .ge 15, 3) := by decide +kernel
theorem dX4_here_30 : decode cX4_here 30 = .ok (.aload_n 0, 1) := by decide +kernel
theorem dX4_here_31 : decode cX4_here 31 = .ok (.getfield 9, 3) := by decide +kernel
theorem dX4_here_34 : decode cX4_here 34 = .ok (.aload_n 0, 1) := by decide +kernel
theorem dX4_here_35 : decode cX4_here 35 = .ok (.getfield 19, 3) := by decide +kernel
theorem dX4_here_38 : decode cX4_here 38 = .ok (.iaload, 1) := by decide +kernel
theorem dX4_here_39 : decode cX4_here 39 = .ok (.goto 4, 3) := by decide +kernel
theorem dX4_here_42 : decode cX4_here 42 = .ok (.iconst (-1), 1) := by decide +kernel
theorem dX4_here_43 : decode cX4_here 43 = .ok (.ireturn, 1) := by decide +kernel
set_option maxRecDepth 20000 in
theorem ggX5_init_X0_init : GoodIn wsX5_init wsX0_init := goodIn_r _ [14, 15, 2, 3, 16, 17, 18, 19, 20, 21, 22, 23, 24, 25, 26, 27, 28, 29, 30, 31, 32, 33, 34, 35, 36, 37, 38, 39, 40, 41, 42, 43, 44, 45, 46, 47, 51, 52, 53, 54, 55, 56, 57, 58, 59, 73, 74, 75, 76, 77, 78, 79, 80, 81, 82, 83, 84, 85, 86, 87, 88, 89, 90] (by decide +kernel) (by decide +kernel)
set_option maxRecDepth 20000 in
theorem gX5_init_X0_init : GoodIn wsX5_init (wsX0_init) := ggX5_init_X0_init
set_option maxRecDepth 20000 in
theorem ggX5_init_X6_init : GoodIn wsX5_init wsX6_init := goodIn_r _ [49, 50, 2, 3] (by decide +kernel) (by decide +kernel)
set_option maxRecDepth 20000 in
theorem gX5_init_X6_init_n20 : GoodIn wsX5_init (wsX6_init) := ggX5_init_X6_init
theorem dX5_init_0 : decode cX5_init 0 = .ok (.aload_n 0, 1) := by decide +kernel
theorem dX5_init_1 : decode cX5_init 1 = .ok (.invokespecial 3, 3) := by decide +kernel
theorem dX5_init_4 : decode cX5_init 4 = .ok (.aload_n 0, 1) := by decide +kernel
theorem dX5_init_5 : decode cX5_init 5 = .ok (.new 9, 3) := by decide +kernel
theorem dX5_init_8 : decode cX5_init 8 = .ok (.dup, 1) := by decide +kernel
theorem dX5_init_9 : decode cX5_init 9 = .ok (.invokespecial 11, 3) := by decide +kernel
theorem dX5_init_12 : decode cX5_init 12 = .ok (.putfield 12, 3) := by decide +kernel
theorem dX5_init_15 : decode cX5_init 15 = .ok (.aload_n 0, 1) := by decide +kernel
theorem dX5_init_16 : decode cX5_init 16 = .ok (.new 18, 3) := by decide +kernel
theorem dX5_init_19 : decode cX5_init 19 = .ok (.dup, 1) := by decide +kernel
theorem dX5_init_20 : decode cX5_init 20 = .ok (.invokespecial 20, 3) := by decide +kernel
theorem dX5_init_23 : decode cX5_init 23 = .ok (.putfield 21, 3) := by decide +kernel
theorem dX5_init_26 : decode cX5_init 26 = .ok (.return_, 1) := by decide +kernel
set_option maxRecDepth 20000 in
theorem ggX5_run_X0_copyFrom : GoodIn wsX5_run wsX0_copyFrom := goodIn_r _ [11, 12, 13, 14, 15, 16, 17, 18, 19, 20, 21, 22, 23, 24, 25, 26, 27, 28, 29, 30, 31, 32, 33, 34, 35, 36, 37, 38, 39, 40, 41, 42, 43, 44, 45, 46, 47, 48, 49, 50, 51, 213, 214, 215, 216, 217, 218, 219, 220, 221, 222, 223, 224, 225, 226, 227, 228, 229, 230, 231, 232, 233, 234, 235, 236, 237, 238, 239] (by decide +kernel) (by decide +kernel)
set_option maxRecDepth 20000 in
theorem gX5_run_X0_copyFrom : GoodIn wsX5_run (wsV RX5 25 RX0 yX0_copyFrom wsX0_copyFrom) := goodIn_app (goodIn_of _ (by decide +kernel)) ggX5_run_X0_copyFrom
set_option maxRecDepth 20000 in
theorem ggX5_run_X4_isRead : GoodIn wsX5_run wsX4_isRead := goodIn_r _ [56, 57, 58, 210, 211, 212] (by decide +kernel) (by decide +kernel)
set_option maxRecDepth 20000 in
theorem gX5_run_X4_isRead : GoodIn wsX5_run (wsV RX5 41 RX4 yX4_isRead wsX4_isRead) := goodIn_app (goodIn_of _ (by decide +kernel)) ggX5_run_X4_isRead
set_option maxRecDepth 20000 in
theorem ggX5_run_X4_readHire : GoodIn wsX5_run wsX4_readHire := goodIn_r _ [62, 63, 64, 65, 66, 67, 68, 69, 70, 55, 71, 72, 73, 74, 75, 57, 76, 77, 78, 79, 80, 81, 82, 83, 58, 84, 85, 86, 87, 88, 89, 90, 91, 92, 93, 94, 95, 96, 97, 98, 240, 241, 242, 243, 244, 245, 246, 210, 211, 212] (by decide +kernel) (by decide +kernel)
set_option maxRecDepth 20000 in
theorem gX5_run_X4_readHire : GoodIn wsX5_run (wsV RX5 48 RX4 yX4_readHire wsX4_readHire) := goodIn_app (goodIn_of _ (by decide +kernel)) ggX5_run_X4_readHire
set_option maxRecDepth 20000 in
theorem ggX5_run_X5_reasonAgainst : GoodIn wsX5_run wsX5_reasonAgainst := goodIn_r _ [103, 1, 6, 104, 105, 106, 107, 108, 109, 10, 110, 13, 111, 112, 113, 114, 115, 116, 117, 118, 119, 120, 121, 122, 123, 124, 125, 126, 127, 128, 129, 130, 131, 132, 133, 134, 135, 23, 136, 137, 138, 28, 139, 140, 141, 142, 143, 35, 36, 34, 39, 144, 145, 146, 147, 148, 149, 15, 150, 151, 152, 153, 154, 155, 156, 157, 158, 159, 32, 160, 161, 162, 163, 164, 165, 166, 167, 168, 169, 170, 14, 204, 205, 206, 207, 208, 209, 240, 241, 242, 243, 244, 245, 246, 213, 214, 215, 216, 217, 218, 219, 220, 221, 222, 223, 224, 225, 226, 227, 228, 229, 230, 231, 232, 233, 234, 235, 236] (by decide +kernel) (by decide +kernel)
set_option maxRecDepth 20000 in
theorem gX5_run_X5_reasonAgainst : GoodIn wsX5_run (wsV RX5 52 RX5 yX5_reasonAgainst wsX5_reasonAgainst) := goodIn_app (goodIn_of _ (by decide +kernel)) ggX5_run_X5_reasonAgainst
set_option maxRecDepth 20000 in
theorem ggX5_run_X0_make : GoodIn wsX5_run wsX0_make := goodIn_r _ [174, 14, 23, 175, 15, 149, 20, 176, 177, 178, 10, 179, 129, 180, 181, 182, 183, 155, 152, 184, 73, 74, 75, 151, 185, 186, 187, 188, 189, 190, 28, 191, 192, 30, 193, 31, 194, 32, 195, 33, 196, 34, 197, 35, 198, 36, 37, 40, 199, 200, 201, 202, 21, 203, 108, 109, 110, 13, 213, 214, 215, 216, 217, 218, 219, 220, 221, 240, 241, 242, 243, 244, 245, 246, 222, 223, 224, 225, 226, 227, 228, 229, 230, 231, 232, 233, 234, 235, 236] (by decide +kernel) (by decide +kernel)
set_option maxRecDepth 20000 in
theorem gX5_run_X0_make : GoodIn wsX5_run (wsV RX5 56 RX0 yX0_make wsX0_make) := goodIn_app (goodIn_of _ (by decide +kernel)) ggX5_run_X0_make
theorem dX5_run_0 : decode cX5_run 0 = .ok (.aload_n 0, 1) := by decide +kernel
theorem dX5_run_1 : decode cX5_run 1 = .ok (.getfield 12, 3) := by decide +kernel
theorem dX5_run_4 : decode cX5_run 4 = .ok (.aload_n 1, 1) := by decide +kernel
theorem dX5_run_5 : decode cX5_run 5 = .ok (.invokevirtual 25, 3) := by decide +kernel
theorem dX5_run_8 : decode cX5_run 8 = .ok (.aload_n 0, 1) := by decide +kernel
theorem dX5_run_9 : decode cX5_run 9 = .ok (.iconst 0, 1) := by decide +kernel
theorem dX5_run_10 : decode cX5_run 10 = .ok (.putfield 29, 3) := by decide +kernel
theorem dX5_run_13 : decode cX5_run 13 = .ok (.aload_n 0, 1) := by decide +kernel
theorem dX5_run_14 : decode cX5_run 14 = .ok (.iconst 0, 1) := by decide +kernel
theorem dX5_run_15 : decode cX5_run 15 = .ok (.putfield 33, 3) := by decide +kernel
theorem dX5_run_18 : decode cX5_run 18 = .ok (.aload_n 2, 1) := by decide +kernel
theorem dX5_run_19 : decode cX5_run 19 = .ok (.iconst 0, 1) := by decide +kernel
theorem dX5_run_20 : decode cX5_run 20 = .ok (.putfield 36, 3) := by decide +kernel
theorem dX5_run_23 : decode cX5_run 23 = .ok (.iconst 0, 1) := by decide +kernel
theorem dX5_run_24 : decode cX5_run 24 = .ok (.istore_n 3, 1) := by decide +kernel
theorem dX5_run_25 : decode cX5_run 25 = .ok (.iload_n 3, 1) := by decide +kernel
theorem dX5_run_26 : decode cX5_run 26 = .ok (.bipush 80, 2) := by decide +kernel
theorem dX5_run_28 : decode cX5_run 28 = .ok (.if_icmp .ge 77, 3) := by decide +kernel
theorem dX5_run_31 : decode cX5_run 31 = .ok (.aload_n 2, 1) := by decide +kernel
theorem dX5_run_32 : decode cX5_run 32 = .ok (.invokevirtual 41, 3) := by decide +kernel
theorem dX5_run_35 : decode cX5_run 35 = .ok (.ifCond .ne 70, 3) := by decide +kernel
theorem dX5_run_38 : decode cX5_run 38 = .ok (.aload_n 0, 1) := by decide +kernel
theorem dX5_run_39 : decode cX5_run 39 = .ok (.aload_n 2, 1) := by decide +kernel
theorem dX5_run_40 : decode cX5_run 40 = .ok (.getfield 36, 3) := by decide +kernel
theorem dX5_run_43 : decode cX5_run 43 = .ok (.putfield 45, 3) := by decide +kernel
theorem dX5_run_46 : decode cX5_run 46 = .ok (.aload_n 0, 1) := by decide +kernel
theorem dX5_run_47 : decode cX5_run 47 = .ok (.aload_n 2, 1) := by decide +kernel
theorem dX5_run_48 : decode cX5_run 48 = .ok (.aload_n 0, 1) := by decide +kernel
theorem dX5_run_49 : decode cX5_run 49 = .ok (.getfield 21, 3) := by decide +kernel
theorem dX5_run_52 : decode cX5_run 52 = .ok (.invokevirtual 48, 3) := by decide +kernel
theorem dX5_run_55 : decode cX5_run 55 = .ok (.ifCond .eq 10, 3) := by decide +kernel
theorem dX5_run_58 : decode cX5_run 58 = .ok (.aload_n 0, 1) := by decide +kernel
theorem dX5_run_59 : decode cX5_run 59 = .ok (.invokevirtual 52, 3) := by decide +kernel
theorem dX5_run_62 : decode cX5_run 62 = .ok (.goto 4, 3) := by decide +kernel
theorem dX5_run_65 : decode cX5_run 65 = .ok (.iconst 1, 1) := by decide +kernel
theorem dX5_run_66 : decode cX5_run 66 = .ok (.putfield 29, 3) := by decide +kernel
theorem dX5_run_69 : decode cX5_run 69 = .ok (.aload_n 0, 1) := by decide +kernel
theorem dX5_run_70 : decode cX5_run 70 = .ok (.getfield 29, 3) := by decide +kernel
theorem dX5_run_73 : decode cX5_run 73 = .ok (.ifCond .eq 4, 3) := by decide +kernel
theorem dX5_run_76 : decode cX5_run 76 = .ok (.return_, 1) := by decide +kernel
theorem dX5_run_77 : decode cX5_run 77 = .ok (.aload_n 0, 1) := by decide +kernel
theorem dX5_run_78 : decode cX5_run 78 = .ok (.getfield 12, 3) := by decide +kernel
theorem dX5_run_81 : decode cX5_run 81 = .ok (.aload_n 0, 1) := by decide +kernel
theorem dX5_run_82 : decode cX5_run 82 = .ok (.getfield 21, 3) := by decide +kernel
theorem dX5_run_85 : decode cX5_run 85 = .ok (.invokevirtual 56, 3) := by decide +kernel
theorem dX5_run_88 : decode cX5_run 88 = .ok (.pop, 1) := by decide +kernel
theorem dX5_run_89 : decode cX5_run 89 = .ok (.aload_n 0, 1) := by decide +kernel
theorem dX5_run_90 : decode cX5_run 90 = .ok (.dup, 1) := by decide +kernel
theorem dX5_run_91 : decode cX5_run 91 = .ok (.getfield 33, 3) := by decide +kernel
theorem dX5_run_94 : decode cX5_run 94 = .ok (.iconst 1, 1) := by decide +kernel
theorem dX5_run_95 : decode cX5_run 95 = .ok (.iadd, 1) := by decide +kernel
theorem dX5_run_96 : decode cX5_run 96 = .ok (.putfield 33, 3) := by decide +kernel
theorem dX5_run_99 : decode cX5_run 99 = .ok (.iinc 3 1, 3) := by decide +kernel
theorem dX5_run_102 : decode cX5_run 102 = .ok (.goto (-77), 3) := by decide +kernel
theorem dX5_run_105 : decode cX5_run 105 = .ok (.return_, 1) := by decide +kernel
set_option maxRecDepth 20000 in
theorem ggX5_reasonAgainst_X0_isHirer : GoodIn wsX5_reasonAgainst wsX0_isHirer := goodIn_r _ [10, 11, 94, 95, 96, 97, 98, 99, 100, 101, 102] (by decide +kernel) (by decide +kernel)
set_option maxRecDepth 20000 in
theorem gX5_reasonAgainst_X0_isHirer : GoodIn wsX5_reasonAgainst (wsV RX5 63 RX0 yX0_isHirer wsX0_isHirer) := goodIn_app (goodIn_of _ (by decide +kernel)) ggX5_reasonAgainst_X0_isHirer
set_option maxRecDepth 20000 in
theorem ggX5_reasonAgainst_X6_isInRange : GoodIn wsX5_reasonAgainst wsX6_isInRange := goodIn_r _ [16, 17, 18, 19, 20, 21, 87, 88, 89, 90, 91, 92, 93] (by decide +kernel) (by decide +kernel)
set_option maxRecDepth 20000 in
theorem gX5_reasonAgainst_X6_isInRange : GoodIn wsX5_reasonAgainst (wsV RX5 70 RX6 yX6_isInRange wsX6_isInRange) := goodIn_app (goodIn_of _ (by decide +kernel)) ggX5_reasonAgainst_X6_isInRange
set_option maxRecDepth 20000 in
theorem ggX5_reasonAgainst_X6_lastDay : GoodIn wsX5_reasonAgainst wsX6_lastDay := goodIn_r _ [25, 17, 20, 21, 87, 88, 89, 90, 91, 92, 93] (by decide +kernel) (by decide +kernel)
set_option maxRecDepth 20000 in
theorem gX5_reasonAgainst_X6_lastDay : GoodIn wsX5_reasonAgainst (wsV RX5 73 RX6 yX6_lastDay wsX6_lastDay) := goodIn_app (goodIn_of _ (by decide +kernel)) ggX5_reasonAgainst_X6_lastDay
set_option maxRecDepth 20000 in
theorem ggX5_reasonAgainst_X0_clashOf : GoodIn wsX5_reasonAgainst wsX0_clashOf := goodIn_r _ [29, 30, 31, 32, 33, 34, 35, 9, 36, 37, 38, 39, 40, 41, 42, 43, 44, 45, 46, 47, 48, 49, 50, 51, 52, 53, 54, 55, 56, 57, 58, 59, 60, 61, 62, 63, 64, 65, 66, 67, 68, 69, 70, 71, 72, 73, 74, 75, 87, 88, 89, 90, 91, 92, 93, 94, 95, 96, 97, 98, 99, 100, 101, 102, 103, 104, 105, 106, 107, 108, 109, 110, 111, 112, 113, 114, 115, 116, 117] (by decide +kernel) (by decide +kernel)
set_option maxRecDepth 20000 in
theorem gX5_reasonAgainst_X0_clashOf : GoodIn wsX5_reasonAgainst (wsV RX5 76 RX0 yX0_clashOf wsX0_clashOf) := goodIn_app (goodIn_of _ (by decide +kernel)) ggX5_reasonAgainst_X0_clashOf
set_option maxRecDepth 20000 in
theorem ggX5_reasonAgainst_X0_isFull : GoodIn wsX5_reasonAgainst wsX0_isFull := goodIn_r _ [79, 80, 94, 95, 96, 97, 98, 99, 100, 101, 102] (by decide +kernel) (by decide +kernel)
set_option maxRecDepth 20000 in
theorem gX5_reasonAgainst_X0_isFull : GoodIn wsX5_reasonAgainst (wsV RX5 82 RX0 yX0_isFull wsX0_isFull) := goodIn_app (goodIn_of _ (by decide +kernel)) ggX5_reasonAgainst_X0_isFull
theorem dX5_reasonAgainst_0 : decode cX5_reasonAgainst 0 = .ok (.aload_n 0, 1) := by decide +kernel
theorem dX5_reasonAgainst_1 : decode cX5_reasonAgainst 1 = .ok (.getfield 12, 3) := by decide +kernel
theorem dX5_reasonAgainst_4 : decode cX5_reasonAgainst 4 = .ok (.aload_n 0, 1) := by decide +kernel
theorem dX5_reasonAgainst_5 : decode cX5_reasonAgainst 5 = .ok (.getfield 21, 3) := by decide +kernel
theorem dX5_reasonAgainst_8 : decode cX5_reasonAgainst 8 = .ok (.getfield 60, 3) := by decide +kernel
theorem dX5_reasonAgainst_11 : decode cX5_reasonAgainst 11 = .ok (.invokevirtual 63, 3) := by decide +kernel
theorem dX5_reasonAgainst_14 : decode cX5_reasonAgainst 14 = .ok (.ifCond .ne 5, 3) := by decide +kernel
theorem dX5_reasonAgainst_17 : decode cX5_reasonAgainst 17 = .ok (.iconst 2, 1) := by decide +kernel
theorem dX5_reasonAgainst_18 : decode cX5_reasonAgainst 18 = .ok (.ireturn, 1) := by decide +kernel
theorem dX5_reasonAgainst_19 : decode cX5_reasonAgainst 19 = .ok (.aload_n 0, 1) := by decide +kernel
theorem dX5_reasonAgainst_20 : decode cX5_reasonAgainst 20 = .ok (.getfield 21, 3) := by decide +kernel
theorem dX5_reasonAgainst_23 : decode cX5_reasonAgainst 23 = .ok (.aload_n 0, 1) := by decide +kernel
theorem dX5_reasonAgainst_24 : decode cX5_reasonAgainst 24 = .ok (.getfield 12, 3) := by decide +kernel
theorem dX5_reasonAgainst_27 : decode cX5_reasonAgainst 27 = .ok (.getfield 67, 3) := by decide +kernel
theorem dX5_reasonAgainst_30 : decode cX5_reasonAgainst 30 = .ok (.invokevirtual 70, 3) := by decide +kernel
theorem dX5_reasonAgainst_33 : decode cX5_reasonAgainst 33 = .ok (.ifCond .eq 16, 3) := by decide +kernel
theorem dX5_reasonAgainst_36 : decode cX5_reasonAgainst 36 = .ok (.aload_n 0, 1) := by decide +kernel
theorem dX5_reasonAgainst_37 : decode cX5_reasonAgainst 37 = .ok (.getfield 21, 3) := by decide +kernel
theorem dX5_reasonAgainst_40 : decode cX5_reasonAgainst 40 = .ok (.invokevirtual 73, 3) := by decide +kernel
theorem dX5_reasonAgainst_43 : decode cX5_reasonAgainst 43 = .ok (.sipush 364, 3) := by decide +kernel
theorem dX5_reasonAgainst_46 : decode cX5_reasonAgainst 46 = .ok (.if_icmp .le 5, 3) := by decide +kernel
theorem dX5_reasonAgainst_49 : decode cX5_reasonAgainst 49 = .ok (.iconst 3, 1) := by decide +kernel
theorem dX5_reasonAgainst_50 : decode cX5_reasonAgainst 50 = .ok (.ireturn, 1) := by decide +kernel
theorem dX5_reasonAgainst_51 : decode cX5_reasonAgainst 51 = .ok (.aload_n 0, 1) := by decide +kernel
theorem dX5_reasonAgainst_52 : decode cX5_reasonAgainst 52 = .ok (.aload_n 0, 1) := by decide +kernel
theorem dX5_reasonAgainst_53 : decode cX5_reasonAgainst 53 = .ok (.getfield 12, 3) := by decide +kernel
theorem dX5_reasonAgainst_56 : decode cX5_reasonAgainst 56 = .ok (.aload_n 0, 1) := by decide +kernel
theorem dX5_reasonAgainst_57 : decode cX5_reasonAgainst 57 = .ok (.getfield 21, 3) := by decide +kernel
theorem dX5_reasonAgainst_60 : decode cX5_reasonAgainst 60 = .ok (.invokevirtual 76, 3) := by decide +kernel
theorem dX5_reasonAgainst_63 : decode cX5_reasonAgainst 63 = .ok (.putfield 79, 3) := by decide +kernel
theorem dX5_reasonAgainst_66 : decode cX5_reasonAgainst 66 = .ok (.aload_n 0, 1) := by decide +kernel
theorem dX5_reasonAgainst_67 : decode cX5_reasonAgainst 67 = .ok (.getfield 79, 3) := by decide +kernel
theorem dX5_reasonAgainst_70 : decode cX5_reasonAgainst 70 = .ok (.iconst (-1), 1) := by decide +kernel
theorem dX5_reasonAgainst_71 : decode cX5_reasonAgainst 71 = .ok (.if_icmp .eq 5, 3) := by decide +kernel
theorem dX5_reasonAgainst_74 : decode cX5_reasonAgainst 74 = .ok (.iconst 4, 1) := by decide +kernel
theorem dX5_reasonAgainst_75 : decode cX5_reasonAgainst 75 = .ok (.ireturn, 1) := by decide +kernel
theorem dX5_reasonAgainst_76 : decode cX5_reasonAgainst 76 = .ok (.aload_n 0, 1) := by decide +kernel
theorem dX5_reasonAgainst_77 : decode cX5_reasonAgainst 77 = .ok (.getfield 12, 3) := by decide +kernel
theorem dX5_reasonAgainst_80 : decode cX5_reasonAgainst 80 = .ok (.invokevirtual 82, 3) := by decide +kernel
theorem dX5_reasonAgainst_83 : decode cX5_reasonAgainst 83 = .ok (.ifCond .eq 7, 3) := by decide +kernel
theorem dX5_reasonAgainst_86 : decode cX5_reasonAgainst 86 = .ok (.iconst 5, 1) := by decide +kernel
theorem dX5_reasonAgainst_87 : decode cX5_reasonAgainst 87 = .ok (.goto 4, 3) := by decide +kernel
theorem dX5_reasonAgainst_90 : decode cX5_reasonAgainst 90 = .ok (.iconst 0, 1) := by decide +kernel
theorem dX5_reasonAgainst_91 : decode cX5_reasonAgainst 91 = .ok (.ireturn, 1) := by decide +kernel
theorem dX6_init_0 : decode cX6_init 0 = .ok (.aload_n 0, 1) := by decide +kernel
theorem dX6_init_1 : decode cX6_init 1 = .ok (.invokespecial 3, 3) := by decide +kernel
theorem dX6_init_4 : decode cX6_init 4 = .ok (.return_, 1) := by decide +kernel
theorem dX6_takeHours_0 : decode cX6_takeHours 0 = .ok (.aload_n 0, 1) := by decide +kernel
theorem dX6_takeHours_1 : decode cX6_takeHours 1 = .ok (.iload_n 1, 1) := by decide +kernel
theorem dX6_takeHours_2 : decode cX6_takeHours 2 = .ok (.ifCond .ge 7, 3) := by decide +kernel
theorem dX6_takeHours_5 : decode cX6_takeHours 5 = .ok (.iconst (-1), 1) := by decide +kernel
theorem dX6_takeHours_6 : decode cX6_takeHours 6 = .ok (.goto 7, 3) := by decide +kernel
theorem dX6_takeHours_9 : decode cX6_takeHours 9 = .ok (.iload_n 1, 1) := by decide +kernel
theorem dX6_takeHours_10 : decode cX6_takeHours 10 = .ok (.bipush 100, 2) := by decide +kernel
theorem dX6_takeHours_12 : decode cX6_takeHours 12 = .ok (.idiv, 1) := by decide +kernel
theorem dX6_takeHours_13 : decode cX6_takeHours 13 = .ok (.putfield 9, 3) := by decide +kernel
theorem dX6_takeHours_16 : decode cX6_takeHours 16 = .ok (.aload_n 0, 1) := by decide +kernel
theorem dX6_takeHours_17 : decode cX6_takeHours 17 = .ok (.iload_n 1, 1) := by decide +kernel
theorem dX6_takeHours_18 : decode cX6_takeHours 18 = .ok (.ifCond .ge 7, 3) := by decide +kernel
theorem dX6_takeHours_21 : decode cX6_takeHours 21 = .ok (.iconst (-1), 1) := by decide +kernel
theorem dX6_takeHours_22 : decode cX6_takeHours 22 = .ok (.goto 7, 3) := by decide +kernel
theorem dX6_takeHours_25 : decode cX6_takeHours 25 = .ok (.iload_n 1, 1) := by decide +kernel
theorem dX6_takeHours_26 : decode cX6_takeHours 26 = .ok (.bipush 100, 2) := by decide +kernel
theorem dX6_takeHours_28 : decode cX6_takeHours 28 = .ok (.irem, 1) := by decide +kernel
theorem dX6_takeHours_29 : decode cX6_takeHours 29 = .ok (.putfield 15, 3) := by decide +kernel
theorem dX6_takeHours_32 : decode cX6_takeHours 32 = .ok (.return_, 1) := by decide +kernel
theorem dX6_takeSeries_0 : decode cX6_takeSeries 0 = .ok (.aload_n 0, 1) := by decide +kernel
theorem dX6_takeSeries_1 : decode cX6_takeSeries 1 = .ok (.iload_n 1, 1) := by decide +kernel
theorem dX6_takeSeries_2 : decode cX6_takeSeries 2 = .ok (.putfield 18, 3) := by decide +kernel
theorem dX6_takeSeries_5 : decode cX6_takeSeries 5 = .ok (.aload_n 0, 1) := by decide +kernel
theorem dX6_takeSeries_6 : decode cX6_takeSeries 6 = .ok (.iload_n 2, 1) := by decide +kernel
theorem dX6_takeSeries_7 : decode cX6_takeSeries 7 = .ok (.putfield 21, 3) := by decide +kernel
theorem dX6_takeSeries_10 : decode cX6_takeSeries 10 = .ok (.aload_n 0, 1) := by decide +kernel
theorem dX6_takeSeries_11 : decode cX6_takeSeries 11 = .ok (.iload_n 3, 1) := by decide +kernel
theorem dX6_takeSeries_12 : decode cX6_takeSeries 12 = .ok (.putfield 24, 3) := by decide +kernel
theorem dX6_takeSeries_15 : decode cX6_takeSeries 15 = .ok (.return_, 1) := by decide +kernel
theorem dX6_isInRange_0 : decode cX6_isInRange 0 = .ok (.aload_n 0, 1) := by decide +kernel
theorem dX6_isInRange_1 : decode cX6_isInRange 1 = .ok (.getfield 18, 3) := by decide +kernel
theorem dX6_isInRange_4 : decode cX6_isInRange 4 = .ok (.iload_n 1, 1) := by decide +kernel
theorem dX6_isInRange_5 : decode cX6_isInRange 5 = .ok (.if_icmp .lt 78, 3) := by decide +kernel
theorem dX6_isInRange_8 : decode cX6_isInRange 8 = .ok (.aload_n 0, 1) := by decide +kernel
theorem dX6_isInRange_9 : decode cX6_isInRange 9 = .ok (.getfield 18, 3) := by decide +kernel
theorem dX6_isInRange_12 : decode cX6_isInRange 12 = .ok (.sipush 364, 3) := by decide +kernel
theorem dX6_isInRange_15 : decode cX6_isInRange 15 = .ok (.if_icmp .gt 68, 3) := by decide +kernel
theorem dX6_isInRange_18 : decode cX6_isInRange 18 = .ok (.aload_n 0, 1) := by decide +kernel
theorem dX6_isInRange_19 : decode cX6_isInRange 19 = .ok (.getfield 9, 3) := by decide +kernel
theorem dX6_isInRange_22 : decode cX6_isInRange 22 = .ok (.ifCond .lt 61, 3) := by decide +kernel
theorem dX6_isInRange_25 : decode cX6_isInRange 25 = .ok (.aload_n 0, 1) := by decide +kernel
theorem dX6_isInRange_26 : decode cX6_isInRange 26 = .ok (.getfield 9, 3) := by decide +kernel
theorem dX6_isInRange_29 : decode cX6_isInRange 29 = .ok (.aload_n 0, 1) := by decide +kernel
theorem dX6_isInRange_30 : decode cX6_isInRange 30 = .ok (.getfield 15, 3) := by decide +kernel
theorem dX6_isInRange_33 : decode cX6_isInRange 33 = .ok (.if_icmp .ge 50, 3) := by decide +kernel
theorem dX6_isInRange_36 : decode cX6_isInRange 36 = .ok (.aload_n 0, 1) := by decide +kernel
theorem dX6_isInRange_37 : decode cX6_isInRange 37 = .ok (.getfield 15, 3) := by decide +kernel
theorem dX6_isInRange_40 : decode cX6_isInRange 40 = .ok (.bipush 24, 2) := by decide +kernel
theorem dX6_isInRange_42 : decode cX6_isInRange 42 = .ok (.if_icmp .gt 41, 3) := by decide +kernel
theorem dX6_isInRange_45 : decode cX6_isInRange 45 = .ok (.aload_n 0, 1) := by decide +kernel
theorem dX6_isInRange_46 : decode cX6_isInRange 46 = .ok (.getfield 21, 3) := by decide +kernel
theorem dX6_isInRange_49 : decode cX6_isInRange 49 = .ok (.iconst 1, 1) := by decide +kernel
theorem dX6_isInRange_50 : decode cX6_isInRange 50 = .ok (.if_icmp .lt 33, 3) := by decide +kernel
theorem dX6_isInRange_53 : decode cX6_isInRange 53 = .ok (.aload_n 0, 1) := by decide +kernel
theorem dX6_isInRange_54 : decode cX6_isInRange 54 = .ok (.getfield 21, 3) := by decide +kernel
theorem dX6_isInRange_57 : decode cX6_isInRange 57 = .ok (.bipush 20, 2) := by decide +kernel
theorem dX6_isInRange_59 : decode cX6_isInRange 59 = .ok (.if_icmp .gt 24, 3) := by decide +kernel
theorem dX6_isInRange_62 : decode cX6_isInRange 62 = .ok (.aload_n 0, 1) := by decide +kernel
theorem dX6_isInRange_63 : decode cX6_isInRange 63 = .ok (.getfield 24, 3) := by decide +kernel
theorem dX6_isInRange_66 : decode cX6_isInRange 66 = .ok (.iconst 1, 1) := by decide +kernel
theorem dX6_isInRange_67 : decode cX6_isInRange 67 = .ok (.if_icmp .lt 16, 3) := by decide +kernel
theorem dX6_isInRange_70 : decode cX6_isInRange 70 = .ok (.aload_n 0, 1) := by decide +kernel
theorem dX6_isInRange_71 : decode cX6_isInRange 71 = .ok (.getfield 24, 3) := by decide +kernel
theorem dX6_isInRange_74 : decode cX6_isInRange 74 = .ok (.bipush 60, 2) := by decide +kernel
theorem dX6_isInRange_76 : decode cX6_isInRange 76 = .ok (.if_icmp .gt 7, 3) := by decide +kernel
theorem dX6_isInRange_79 : decode cX6_isInRange 79 = .ok (.iconst 1, 1) := by decide +kernel
theorem dX6_isInRange_80 : decode cX6_isInRange 80 = .ok (.goto 4, 3) := by decide +kernel
theorem dX6_isInRange_83 : decode cX6_isInRange 83 = .ok (.iconst 0, 1) := by decide +kernel
theorem dX6_isInRange_84 : decode cX6_isInRange 84 = .ok (.ireturn, 1) := by decide +kernel
theorem dX6_lastDay_0 : decode cX6_lastDay 0 = .ok (.aload_n 0, 1) := by decide +kernel
theorem dX6_lastDay_1 : decode cX6_lastDay 1 = .ok (.getfield 18, 3) := by decide +kernel
theorem dX6_lastDay_4 : decode cX6_lastDay 4 = .ok (.aload_n 0, 1) := by decide +kernel
theorem dX6_lastDay_5 : decode cX6_lastDay 5 = .ok (.getfield 21, 3) := by decide +kernel
theorem dX6_lastDay_8 : decode cX6_lastDay 8 = .ok (.iconst 1, 1) := by decide +kernel
theorem dX6_lastDay_9 : decode cX6_lastDay 9 = .ok (.isub, 1) := by decide +kernel
theorem dX6_lastDay_10 : decode cX6_lastDay 10 = .ok (.aload_n 0, 1) := by decide +kernel
theorem dX6_lastDay_11 : decode cX6_lastDay 11 = .ok (.getfield 24, 3) := by decide +kernel
theorem dX6_lastDay_14 : decode cX6_lastDay 14 = .ok (.imul, 1) := by decide +kernel
theorem dX6_lastDay_15 : decode cX6_lastDay 15 = .ok (.iadd, 1) := by decide +kernel
theorem dX6_lastDay_16 : decode cX6_lastDay 16 = .ok (.ireturn, 1) := by decide +kernel
set_option maxRecDepth 20000 in
theorem ggX7_init_X0_init : GoodIn wsX7_init wsX0_init := goodIn_r _ [27, 28, 2, 3, 29, 30, 31, 32, 33, 34, 35, 36, 37, 38, 39, 40, 41, 42, 43, 44, 45, 46, 47, 48, 49, 50, 51, 52, 53, 54, 55, 56, 57, 58, 59, 60, 85, 86, 87, 88, 89, 90, 91, 92, 93, 118, 119, 120, 121, 122, 123, 124, 125, 126, 127, 128, 129, 130, 131, 132, 133, 134, 135] (by decide +kernel) (by decide +kernel)
set_option maxRecDepth 20000 in
theorem gX7_init_X0_init : GoodIn wsX7_init (wsX0_init) := ggX7_init_X0_init
set_option maxRecDepth 20000 in
theorem ggX7_init_X2_init : GoodIn wsX7_init wsX2_init := goodIn_r _ [63, 64, 2, 3, 65, 66, 5, 6, 67, 26, 27, 28, 29, 30, 31, 32, 33, 34, 35, 36, 37, 38, 39, 40, 41, 42, 43, 44, 45, 46, 47, 48, 49, 50, 51, 52, 53, 54, 55, 56, 57, 58, 59, 60, 100, 101, 85, 86, 87, 88, 89, 90, 91, 92, 93, 118, 119, 120, 121, 122, 123, 124, 125, 126, 127, 128, 129, 130, 131, 132, 133, 134, 135] (by decide +kernel) (by decide +kernel)
set_option maxRecDepth 20000 in
theorem gX7_init_X2_init : GoodIn wsX7_init (wsX2_init) := ggX7_init_X2_init
set_option maxRecDepth 20000 in
theorem ggX7_init_X4_init : GoodIn wsX7_init wsX4_init := goodIn_r _ [70, 71, 2, 3, 36, 72, 102, 103, 104] (by decide +kernel) (by decide +kernel)
set_option maxRecDepth 20000 in
theorem gX7_init_X4_init : GoodIn wsX7_init (wsX4_init) := ggX7_init_X4_init
set_option maxRecDepth 20000 in
theorem ggX7_init_X5_init : GoodIn wsX7_init wsX5_init := goodIn_r _ [75, 76, 2, 3, 77, 5, 6, 78, 79, 21, 22, 80, 81, 26, 27, 28, 29, 30, 31, 32, 33, 34, 35, 36, 37, 38, 39, 40, 41, 42, 43, 44, 45, 46, 47, 48, 49, 50, 51, 52, 53, 54, 55, 56, 57, 58, 59, 60, 82, 83, 84, 85, 86, 87, 88, 89, 90, 91, 92, 93, 105, 106, 107, 108, 109, 110, 111, 112, 113, 114, 115, 116, 117, 118, 119, 120, 121, 122, 123, 124, 125, 126, 127, 128, 129, 130, 131, 132, 133, 134, 135] (by decide +kernel) (by decide +kernel)
set_option maxRecDepth 20000 in
theorem gX7_init_X5_init : GoodIn wsX7_init (wsX5_init) := ggX7_init_X5_init
set_option maxRecDepth 20000 in
theorem ggX7_init_X6_init : GoodIn wsX7_init wsX6_init := goodIn_r _ [83, 84, 2, 3] (by decide +kernel) (by decide +kernel)
set_option maxRecDepth 20000 in
theorem gX7_init_X6_init_n39 : GoodIn wsX7_init (wsX6_init) := ggX7_init_X6_init
theorem dX7_init_0 : decode cX7_init 0 = .ok (.aload_n 0, 1) := by decide +kernel
theorem dX7_init_1 : decode cX7_init 1 = .ok (.invokespecial 1, 3) := by decide +kernel
theorem dX7_init_4 : decode cX7_init 4 = .ok (.aload_n 0, 1) := by decide +kernel
theorem dX7_init_5 : decode cX7_init 5 = .ok (.new 7, 3) := by decide +kernel
theorem dX7_init_8 : decode cX7_init 8 = .ok (.dup, 1) := by decide +kernel
theorem dX7_init_9 : decode cX7_init 9 = .ok (.invokespecial 9, 3) := by decide +kernel
theorem dX7_init_12 : decode cX7_init 12 = .ok (.putfield 10, 3) := by decide +kernel
theorem dX7_init_15 : decode cX7_init 15 = .ok (.aload_n 0, 1) := by decide +kernel
theorem dX7_init_16 : decode cX7_init 16 = .ok (.new 16, 3) := by decide +kernel
theorem dX7_init_19 : decode cX7_init 19 = .ok (.dup, 1) := by decide +kernel
theorem dX7_init_20 : decode cX7_init 20 = .ok (.invokespecial 18, 3) := by decide +kernel
theorem dX7_init_23 : decode cX7_init 23 = .ok (.putfield 19, 3) := by decide +kernel
theorem dX7_init_26 : decode cX7_init 26 = .ok (.aload_n 0, 1) := by decide +kernel
theorem dX7_init_27 : decode cX7_init 27 = .ok (.new 23, 3) := by decide +kernel
theorem dX7_init_30 : decode cX7_init 30 = .ok (.dup, 1) := by decide +kernel
theorem dX7_init_31 : decode cX7_init 31 = .ok (.invokespecial 25, 3) := by decide +kernel
theorem dX7_init_34 : decode cX7_init 34 = .ok (.putfield 26, 3) := by decide +kernel
theorem dX7_init_37 : decode cX7_init 37 = .ok (.aload_n 0, 1) := by decide +kernel
theorem dX7_init_38 : decode cX7_init 38 = .ok (.new 30, 3) := by decide +kernel
theorem dX7_init_41 : decode cX7_init 41 = .ok (.dup, 1) := by decide +kernel
theorem dX7_init_42 : decode cX7_init 42 = .ok (.invokespecial 32, 3) := by decide +kernel
theorem dX7_init_45 : decode cX7_init 45 = .ok (.putfield 33, 3) := by decide +kernel
theorem dX7_init_48 : decode cX7_init 48 = .ok (.aload_n 0, 1) := by decide +kernel
theorem dX7_init_49 : decode cX7_init 49 = .ok (.new 37, 3) := by decide +kernel
theorem dX7_init_52 : decode cX7_init 52 = .ok (.dup, 1) := by decide +kernel
theorem dX7_init_53 : decode cX7_init 53 = .ok (.invokespecial 39, 3) := by decide +kernel
theorem dX7_init_56 : decode cX7_init 56 = .ok (.putfield 40, 3) := by decide +kernel
theorem dX7_init_59 : decode cX7_init 59 = .ok (.aload_n 0, 1) := by decide +kernel
theorem dX7_init_60 : decode cX7_init 60 = .ok (.iconst (-1), 1) := by decide +kernel
theorem dX7_init_61 : decode cX7_init 61 = .ok (.putfield 44, 3) := by decide +kernel
theorem dX7_init_64 : decode cX7_init 64 = .ok (.return_, 1) := by decide +kernel
set_option maxRecDepth 20000 in
theorem ggX7_addHirer_X2_save : GoodIn wsX7_addHirer wsX2_save := goodIn_r _ [9, 10, 11, 12, 13, 14, 8, 15, 16, 17, 18, 19, 20, 21, 22, 23, 24, 25, 26, 27, 28, 29, 30, 31, 32, 33, 34, 35, 36, 37, 38, 39, 40, 41, 42, 43, 44, 45, 46, 47, 48, 49, 50, 51, 52, 53, 54, 55, 56, 57, 58, 59, 60, 76, 77, 67, 68, 69, 70, 71, 72, 73, 74, 75, 78, 79, 80, 81, 82, 83, 84, 85, 86, 87, 88, 89, 90, 91, 92, 93, 94, 95] (by decide +kernel) (by decide +kernel)
set_option maxRecDepth 20000 in
theorem gX7_addHirer_X2_save : GoodIn wsX7_addHirer (wsV RX7 52 RX2 yX2_save wsX2_save) := goodIn_app (goodIn_of _ (by decide +kernel)) ggX7_addHirer_X2_save
theorem dX7_addHirer_0 : decode cX7_addHirer 0 = .ok (.aload_n 0, 1) := by decide +kernel
theorem dX7_addHirer_1 : decode cX7_addHirer 1 = .ok (.getfield 10, 3) := by decide +kernel
theorem dX7_addHirer_4 : decode cX7_addHirer 4 = .ok (.getfield 48, 3) := by decide +kernel
theorem dX7_addHirer_7 : decode cX7_addHirer 7 = .ok (.bipush 10, 2) := by decide +kernel
theorem dX7_addHirer_9 : decode cX7_addHirer 9 = .ok (.if_icmp .lt 6, 3) := by decide +kernel
theorem dX7_addHirer_12 : decode cX7_addHirer 12 = .ok (.ldc 51, 2) := by decide +kernel
theorem dX7_addHirer_14 : decode cX7_addHirer 14 = .ok (.ireturn, 1) := by decide +kernel
theorem dX7_addHirer_15 : decode cX7_addHirer 15 = .ok (.aload_n 0, 1) := by decide +kernel
theorem dX7_addHirer_16 : decode cX7_addHirer 16 = .ok (.getfield 19, 3) := by decide +kernel
theorem dX7_addHirer_19 : decode cX7_addHirer 19 = .ok (.aload_n 0, 1) := by decide +kernel
theorem dX7_addHirer_20 : decode cX7_addHirer 20 = .ok (.getfield 10, 3) := by decide +kernel
theorem dX7_addHirer_23 : decode cX7_addHirer 23 = .ok (.invokevirtual 52, 3) := by decide +kernel
theorem dX7_addHirer_26 : decode cX7_addHirer 26 = .ok (.aload_n 0, 1) := by decide +kernel
theorem dX7_addHirer_27 : decode cX7_addHirer 27 = .ok (.getfield 10, 3) := by decide +kernel
theorem dX7_addHirer_30 : decode cX7_addHirer 30 = .ok (.dup, 1) := by decide +kernel
theorem dX7_addHirer_31 : decode cX7_addHirer 31 = .ok (.getfield 48, 3) := by decide +kernel
theorem dX7_addHirer_34 : decode cX7_addHirer 34 = .ok (.iconst 1, 1) := by decide +kernel
theorem dX7_addHirer_35 : decode cX7_addHirer 35 = .ok (.iadd, 1) := by decide +kernel
theorem dX7_addHirer_36 : decode cX7_addHirer 36 = .ok (.putfield 48, 3) := by decide +kernel
theorem dX7_addHirer_39 : decode cX7_addHirer 39 = .ok (.aload_n 0, 1) := by decide +kernel
theorem dX7_addHirer_40 : decode cX7_addHirer 40 = .ok (.getfield 10, 3) := by decide +kernel
theorem dX7_addHirer_43 : decode cX7_addHirer 43 = .ok (.getfield 48, 3) := by decide +kernel
theorem dX7_addHirer_46 : decode cX7_addHirer 46 = .ok (.iconst 1, 1) := by decide +kernel
theorem dX7_addHirer_47 : decode cX7_addHirer 47 = .ok (.isub, 1) := by decide +kernel
theorem dX7_addHirer_48 : decode cX7_addHirer 48 = .ok (.ireturn, 1) := by decide +kernel
set_option maxRecDepth 20000 in
theorem ggX7_hirer_X0_isHirer : GoodIn wsX7_hirer wsX0_isHirer := goodIn_r _ [9, 10, 58, 59, 60, 61, 62, 63, 64, 65, 66] (by decide +kernel) (by decide +kernel)
set_option maxRecDepth 20000 in
theorem gX7_hirer_X0_isHirer : GoodIn wsX7_hirer (wsV RX7 56 RX0 yX0_isHirer wsX0_isHirer) := goodIn_app (goodIn_of _ (by decide +kernel)) ggX7_hirer_X0_isHirer
set_option maxRecDepth 20000 in
theorem ggX7_hirer_X0_hiresOf : GoodIn wsX7_hirer wsX0_hiresOf := goodIn_r _ [14, 15, 16, 58, 59, 60, 61, 62, 63, 64, 65, 66, 67, 68, 69, 70, 71, 72, 73, 74, 75, 76, 77, 78, 79, 80, 81] (by decide +kernel) (by decide +kernel)
set_option maxRecDepth 20000 in
theorem gX7_hirer_X0_hiresOf : GoodIn wsX7_hirer (wsV RX7 68 RX0 yX0_hiresOf wsX0_hiresOf) := goodIn_app (goodIn_of _ (by decide +kernel)) ggX7_hirer_X0_hiresOf
set_option maxRecDepth 20000 in
theorem ggX7_hirer_X0_plannedOf : GoodIn wsX7_hirer wsX0_plannedOf := goodIn_r _ [20, 15, 16, 21, 22, 23, 24, 25, 26, 27, 28, 29, 30, 31, 32, 33, 34, 35, 58, 59, 60, 61, 62, 63, 64, 65, 66, 67, 68, 69, 70, 71, 72, 73, 74, 75, 76, 77, 78, 79, 80, 81] (by decide +kernel) (by decide +kernel)
set_option maxRecDepth 20000 in
theorem gX7_hirer_X0_plannedOf : GoodIn wsX7_hirer (wsV RX7 72 RX0 yX0_plannedOf wsX0_plannedOf) := goodIn_app (goodIn_of _ (by decide +kernel)) ggX7_hirer_X0_plannedOf
set_option maxRecDepth 20000 in
theorem ggX7_hirer_X0_keysOf : GoodIn wsX7_hirer wsX0_keysOf := goodIn_r _ [39, 15, 16, 40, 41, 42, 43, 8, 44, 45, 46, 58, 59, 60, 61, 62, 63, 64, 65, 66, 67, 68, 69, 70, 71, 72, 73, 74, 75, 76, 77, 78, 79, 80, 81, 82, 83, 84] (by decide +kernel) (by decide +kernel)
set_option maxRecDepth 20000 in
theorem gX7_hirer_X0_keysOf : GoodIn wsX7_hirer (wsV RX7 75 RX0 yX0_keysOf wsX0_keysOf) := goodIn_app (goodIn_of _ (by decide +kernel)) ggX7_hirer_X0_keysOf
set_option maxRecDepth 20000 in
theorem ggX7_hirer_X0_faultsOf : GoodIn wsX7_hirer wsX0_faultsOf := goodIn_r _ [50, 15, 16, 51, 58, 59, 60, 61, 62, 63, 64, 65, 66, 67, 68, 69, 70, 71, 72, 73, 74, 75, 76, 77, 78, 79, 80, 81] (by decide +kernel) (by decide +kernel)
set_option maxRecDepth 20000 in
theorem gX7_hirer_X0_faultsOf : GoodIn wsX7_hirer (wsV RX7 78 RX0 yX0_faultsOf wsX0_faultsOf) := goodIn_app (goodIn_of _ (by decide +kernel)) ggX7_hirer_X0_faultsOf
theorem dX7_hirer_0 : decode cX7_hirer 0 = .ok (.aload_n 0, 1) := by decide +kernel
theorem dX7_hirer_1 : decode cX7_hirer 1 = .ok (.getfield 10, 3) := by decide +kernel
theorem dX7_hirer_4 : decode cX7_hirer 4 = .ok (.iload_n 1, 1) := by decide +kernel
theorem dX7_hirer_5 : decode cX7_hirer 5 = .ok (.invokevirtual 56, 3) := by decide +kernel
theorem dX7_hirer_8 : decode cX7_hirer 8 = .ok (.ifCond .ne 6, 3) := by decide +kernel
theorem dX7_hirer_11 : decode cX7_hirer 11 = .ok (.ldc 60, 2) := by decide +kernel
theorem dX7_hirer_13 : decode cX7_hirer 13 = .ok (.ireturn, 1) := by decide +kernel
theorem dX7_hirer_14 : decode cX7_hirer 14 = .ok (.iload_n 2, 1) := by decide +kernel
theorem dX7_hirer_15 : decode cX7_hirer 15 = .ok (.tableswitch 117 0 6 #[41, 51, 61, 81, 90, 99, 108], 41) := by decide +kernel
theorem dX7_hirer_56 : decode cX7_hirer 56 = .ok (.aload_n 0, 1) := by decide +kernel
theorem dX7_hirer_57 : decode cX7_hirer 57 = .ok (.getfield 10, 3) := by decide +kernel
theorem dX7_hirer_60 : decode cX7_hirer 60 = .ok (.getfield 61, 3) := by decide +kernel
theorem dX7_hirer_63 : decode cX7_hirer 63 = .ok (.iload_n 1, 1) := by decide +kernel
theorem dX7_hirer_64 : decode cX7_hirer 64 = .ok (.iaload, 1) := by decide +kernel
theorem dX7_hirer_65 : decode cX7_hirer 65 = .ok (.ireturn, 1) := by decide +kernel
theorem dX7_hirer_66 : decode cX7_hirer 66 = .ok (.aload_n 0, 1) := by decide +kernel
theorem dX7_hirer_67 : decode cX7_hirer 67 = .ok (.getfield 10, 3) := by decide +kernel
theorem dX7_hirer_70 : decode cX7_hirer 70 = .ok (.getfield 65, 3) := by decide +kernel
theorem dX7_hirer_73 : decode cX7_hirer 73 = .ok (.iload_n 1, 1) := by decide +kernel
theorem dX7_hirer_74 : decode cX7_hirer 74 = .ok (.iaload, 1) := by decide +kernel
theorem dX7_hirer_75 : decode cX7_hirer 75 = .ok (.ireturn, 1) := by decide +kernel
theorem dX7_hirer_76 : decode cX7_hirer 76 = .ok (.aload_n 0, 1) := by decide +kernel
theorem dX7_hirer_77 : decode cX7_hirer 77 = .ok (.getfield 10, 3) := by decide +kernel
theorem dX7_hirer_80 : decode cX7_hirer 80 = .ok (.getfield 61, 3) := by decide +kernel
theorem dX7_hirer_83 : decode cX7_hirer 83 = .ok (.iload_n 1, 1) := by decide +kernel
theorem dX7_hirer_84 : decode cX7_hirer 84 = .ok (.iaload, 1) := by decide +kernel
theorem dX7_hirer_85 : decode cX7_hirer 85 = .ok (.aload_n 0, 1) := by decide +kernel
theorem dX7_hirer_86 : decode cX7_hirer 86 = .ok (.getfield 10, 3) := by decide +kernel
theorem dX7_hirer_89 : decode cX7_hirer 89 = .ok (.getfield 65, 3) := by decide +kernel
theorem dX7_hirer_92 : decode cX7_hirer 92 = .ok (.iload_n 1, 1) := by decide +kernel
theorem dX7_hirer_93 : decode cX7_hirer 93 = .ok (.iaload, 1) := by decide +kernel
theorem dX7_hirer_94 : decode cX7_hirer 94 = .ok (.isub, 1) := by decide +kernel
theorem dX7_hirer_95 : decode cX7_hirer 95 = .ok (.ireturn, 1) := by decide +kernel
theorem dX7_hirer_96 : decode cX7_hirer 96 = .ok (.aload_n 0, 1) := by decide +kernel
theorem dX7_hirer_97 : decode cX7_hirer 97 = .ok (.getfield 10, 3) := by decide +kernel
theorem dX7_hirer_100 : decode cX7_hirer 100 = .ok (.iload_n 1, 1) := by decide +kernel
theorem dX7_hirer_101 : decode cX7_hirer 101 = .ok (.invokevirtual 68, 3) := by decide +kernel
theorem dX7_hirer_104 : decode cX7_hirer 104 = .ok (.ireturn, 1) := by decide +kernel
theorem dX7_hirer_105 : decode cX7_hirer 105 = .ok (.aload_n 0, 1) := by decide +kernel
theorem dX7_hirer_106 : decode cX7_hirer 106 = .ok (.getfield 10, 3) := by decide +kernel
theorem dX7_hirer_109 : decode cX7_hirer 109 = .ok (.iload_n 1, 1) := by decide +kernel
theorem dX7_hirer_110 : decode cX7_hirer 110 = .ok (.invokevirtual 72, 3) := by decide +kernel
theorem dX7_hirer_113 : decode cX7_hirer 113 = .ok (.ireturn, 1) := by decide +kernel
theorem dX7_hirer_114 : decode cX7_hirer 114 = .ok (.aload_n 0, 1) := by decide +kernel
theorem dX7_hirer_115 : decode cX7_hirer 115 = .ok (.getfield 10, 3) := by decide +kernel
theorem dX7_hirer_118 : decode cX7_hirer 118 = .ok (.iload_n 1, 1) := by decide +kernel
theorem dX7_hirer_119 : decode cX7_hirer 119 = .ok (.invokevirtual 75, 3) := by decide +kernel
theorem dX7_hirer_122 : decode cX7_hirer 122 = .ok (.ireturn, 1) := by decide +kernel
theorem dX7_hirer_123 : decode cX7_hirer 123 = .ok (.aload_n 0, 1) := by decide +kernel
theorem dX7_hirer_124 : decode cX7_hirer 124 = .ok (.getfield 10, 3) := by decide +kernel
theorem dX7_hirer_127 : decode cX7_hirer 127 = .ok (.iload_n 1, 1) := by decide +kernel
theorem dX7_hirer_128 : decode cX7_hirer 128 = .ok (.invokevirtual 78, 3) := by decide +kernel
theorem dX7_hirer_131 : decode cX7_hirer 131 = .ok (.ireturn, 1) := by decide +kernel
theorem dX7_hirer_132 : decode cX7_hirer 132 = .ok (.ldc 60, 2) := by decide +kernel
theorem dX7_hirer_134 : decode cX7_hirer 134 = .ok (.ireturn, 1) := by decide +kernel
set_option maxRecDepth 20000 in
theorem ggX7_pay_X0_isHirer : GoodIn wsX7_pay wsX0_isHirer := goodIn_r _ [13, 14, 80, 81, 82, 83, 84, 85, 86, 87, 88] (by decide +kernel) (by decide +kernel)
set_option maxRecDepth 20000 in
theorem gX7_pay_X0_isHirer : GoodIn wsX7_pay (wsV RX7 56 RX0 yX0_isHirer wsX0_isHirer) := goodIn_app (goodIn_of _ (by decide +kernel)) ggX7_pay_X0_isHirer
set_option maxRecDepth 20000 in
theorem ggX7_pay_X2_save : GoodIn wsX7_pay wsX2_save := goodIn_r _ [19, 20, 21, 22, 23, 24, 18, 25, 26, 27, 28, 12, 29, 30, 14, 31, 32, 33, 34, 35, 36, 37, 38, 39, 40, 41, 42, 43, 44, 45, 46, 47, 48, 49, 50, 51, 52, 53, 54, 55, 56, 57, 58, 59, 60, 61, 62, 63, 64, 65, 66, 67, 68, 89, 90, 80, 81, 82, 83, 84, 85, 86, 87, 88, 91, 92, 93, 94, 95, 96, 97, 98, 99, 100, 101, 102, 103, 104, 105, 106, 107, 108] (by decide +kernel) (by decide +kernel)
set_option maxRecDepth 20000 in
theorem gX7_pay_X2_save : GoodIn wsX7_pay (wsV RX7 52 RX2 yX2_save wsX2_save) := goodIn_app (goodIn_of _ (by decide +kernel)) ggX7_pay_X2_save
set_option maxRecDepth 20000 in
theorem ggX7_pay_X0_credit : GoodIn wsX7_pay wsX0_credit := goodIn_r _ [72, 39, 37, 73, 10, 11, 12, 13, 14, 80, 81, 82, 83, 84, 85, 86, 87, 88] (by decide +kernel) (by decide +kernel)
set_option maxRecDepth 20000 in
theorem gX7_pay_X0_credit : GoodIn wsX7_pay (wsV RX7 83 RX0 yX0_credit wsX0_credit) := goodIn_app (goodIn_of _ (by decide +kernel)) ggX7_pay_X0_credit
theorem dX7_pay_0 : decode cX7_pay 0 = .ok (.aload_n 0, 1) := by decide +kernel
theorem dX7_pay_1 : decode cX7_pay 1 = .ok (.getfield 10, 3) := by decide +kernel
theorem dX7_pay_4 : decode cX7_pay 4 = .ok (.iload_n 1, 1) := by decide +kernel
theorem dX7_pay_5 : decode cX7_pay 5 = .ok (.invokevirtual 56, 3) := by decide +kernel
theorem dX7_pay_8 : decode cX7_pay 8 = .ok (.ifCond .eq 14, 3) := by decide +kernel
theorem dX7_pay_11 : decode cX7_pay 11 = .ok (.iload_n 2, 1) := by decide +kernel
theorem dX7_pay_12 : decode cX7_pay 12 = .ok (.iconst 1, 1) := by decide +kernel
theorem dX7_pay_13 : decode cX7_pay 13 = .ok (.if_icmp .lt 9, 3) := by decide +kernel
theorem dX7_pay_16 : decode cX7_pay 16 = .ok (.iload_n 2, 1) := by decide +kernel
theorem dX7_pay_17 : decode cX7_pay 17 = .ok (.ldc 81, 2) := by decide +kernel
theorem dX7_pay_19 : decode cX7_pay 19 = .ok (.if_icmp .le 6, 3) := by decide +kernel
theorem dX7_pay_22 : decode cX7_pay 22 = .ok (.ldc 60, 2) := by decide +kernel
theorem dX7_pay_24 : decode cX7_pay 24 = .ok (.ireturn, 1) := by decide +kernel
theorem dX7_pay_25 : decode cX7_pay 25 = .ok (.aload_n 0, 1) := by decide +kernel
theorem dX7_pay_26 : decode cX7_pay 26 = .ok (.getfield 10, 3) := by decide +kernel
theorem dX7_pay_29 : decode cX7_pay 29 = .ok (.getfield 65, 3) := by decide +kernel
theorem dX7_pay_32 : decode cX7_pay 32 = .ok (.iload_n 1, 1) := by decide +kernel
theorem dX7_pay_33 : decode cX7_pay 33 = .ok (.iaload, 1) := by decide +kernel
theorem dX7_pay_34 : decode cX7_pay 34 = .ok (.iload_n 2, 1) := by decide +kernel
theorem dX7_pay_35 : decode cX7_pay 35 = .ok (.iadd, 1) := by decide +kernel
theorem dX7_pay_36 : decode cX7_pay 36 = .ok (.ldc 82, 2) := by decide +kernel
theorem dX7_pay_38 : decode cX7_pay 38 = .ok (.if_icmp .le 6, 3) := by decide +kernel
theorem dX7_pay_41 : decode cX7_pay 41 = .ok (.ldc 51, 2) := by decide +kernel
theorem dX7_pay_43 : decode cX7_pay 43 = .ok (.ireturn, 1) := by decide +kernel
theorem dX7_pay_44 : decode cX7_pay 44 = .ok (.aload_n 0, 1) := by decide +kernel
theorem dX7_pay_45 : decode cX7_pay 45 = .ok (.getfield 19, 3) := by decide +kernel
theorem dX7_pay_48 : decode cX7_pay 48 = .ok (.aload_n 0, 1) := by decide +kernel
theorem dX7_pay_49 : decode cX7_pay 49 = .ok (.getfield 10, 3) := by decide +kernel
theorem dX7_pay_52 : decode cX7_pay 52 = .ok (.invokevirtual 52, 3) := by decide +kernel
theorem dX7_pay_55 : decode cX7_pay 55 = .ok (.aload_n 0, 1) := by decide +kernel
theorem dX7_pay_56 : decode cX7_pay 56 = .ok (.getfield 10, 3) := by decide +kernel
theorem dX7_pay_59 : decode cX7_pay 59 = .ok (.iload_n 1, 1) := by decide +kernel
theorem dX7_pay_60 : decode cX7_pay 60 = .ok (.iload_n 2, 1) := by decide +kernel
theorem dX7_pay_61 : decode cX7_pay 61 = .ok (.bipush 8, 2) := by decide +kernel
theorem dX7_pay_63 : decode cX7_pay 63 = .ok (.invokevirtual 83, 3) := by decide +kernel
theorem dX7_pay_66 : decode cX7_pay 66 = .ok (.aload_n 0, 1) := by decide +kernel
theorem dX7_pay_67 : decode cX7_pay 67 = .ok (.getfield 10, 3) := by decide +kernel
theorem dX7_pay_70 : decode cX7_pay 70 = .ok (.getfield 61, 3) := by decide +kernel
theorem dX7_pay_73 : decode cX7_pay 73 = .ok (.iload_n 1, 1) := by decide +kernel
theorem dX7_pay_74 : decode cX7_pay 74 = .ok (.iaload, 1) := by decide +kernel
theorem dX7_pay_75 : decode cX7_pay 75 = .ok (.aload_n 0, 1) := by decide +kernel
theorem dX7_pay_76 : decode cX7_pay 76 = .ok (.getfield 10, 3) := by decide +kernel
theorem dX7_pay_79 : decode cX7_pay 79 = .ok (.getfield 65, 3) := by decide +kernel
theorem dX7_pay_82 : decode cX7_pay 82 = .ok (.iload_n 1, 1) := by decide +kernel
theorem dX7_pay_83 : decode cX7_pay 83 = .ok (.iaload, 1) := by decide +kernel
theorem dX7_pay_84 : decode cX7_pay 84 = .ok (.isub, 1) := by decide +kernel
theorem dX7_pay_85 : decode cX7_pay 85 = .ok (.ireturn, 1) := by decide +kernel
set_option maxRecDepth 20000 in
theorem ggX7_set_X2_save : GoodIn wsX7_set wsX2_save := goodIn_r _ [10, 11, 12, 13, 14, 15, 9, 16, 17, 18, 19, 20, 21, 22, 23, 24, 25, 26, 27, 28, 29, 30, 31, 32, 33, 34, 35, 36, 37, 38, 39, 40, 41, 42, 43, 44, 45, 46, 47, 48, 49, 50, 51, 52, 53, 54, 55, 56, 57, 58, 59, 60, 61, 77, 78, 68, 69, 70, 71, 72, 73, 74, 75, 76, 79, 80, 81, 82, 83, 84, 85, 86, 87, 88, 89, 90, 91, 92, 93, 94, 95, 96] (by decide +kernel) (by decide +kernel)
set_option maxRecDepth 20000 in
theorem gX7_set_X2_save : GoodIn wsX7_set (wsV RX7 52 RX2 yX2_save wsX2_save) := goodIn_app (goodIn_of _ (by decide +kernel)) ggX7_set_X2_save
theorem dX7_set_0 : decode cX7_set 0 = .ok (.iload_n 1, 1) := by decide +kernel
theorem dX7_set_1 : decode cX7_set 1 = .ok (.ifCond .lt 22, 3) := by decide +kernel
theorem dX7_set_4 : decode cX7_set 4 = .ok (.iload_n 1, 1) := by decide +kernel
theorem dX7_set_5 : decode cX7_set 5 = .ok (.bipush 8, 2) := by decide +kernel
theorem dX7_set_7 : decode cX7_set 7 = .ok (.if_icmp .ge 16, 3) := by decide +kernel
theorem dX7_set_10 : decode cX7_set 10 = .ok (.iload_n 2, 1) := by decide +kernel
theorem dX7_set_11 : decode cX7_set 11 = .ok (.ifCond .lt 12, 3) := by decide +kernel
theorem dX7_set_14 : decode cX7_set 14 = .ok (.iload_n 2, 1) := by decide +kernel
theorem dX7_set_15 : decode cX7_set 15 = .ok (.getstatic 87, 3) := by decide +kernel
theorem dX7_set_18 : decode cX7_set 18 = .ok (.iload_n 1, 1) := by decide +kernel
theorem dX7_set_19 : decode cX7_set 19 = .ok (.iaload, 1) := by decide +kernel
theorem dX7_set_20 : decode cX7_set 20 = .ok (.if_icmp .le 6, 3) := by decide +kernel
theorem dX7_set_23 : decode cX7_set 23 = .ok (.ldc 60, 2) := by decide +kernel
theorem dX7_set_25 : decode cX7_set 25 = .ok (.ireturn, 1) := by decide +kernel
theorem dX7_set_26 : decode cX7_set 26 = .ok (.aload_n 0, 1) := by decide +kernel
theorem dX7_set_27 : decode cX7_set 27 = .ok (.getfield 19, 3) := by decide +kernel
theorem dX7_set_30 : decode cX7_set 30 = .ok (.aload_n 0, 1) := by decide +kernel
theorem dX7_set_31 : decode cX7_set 31 = .ok (.getfield 10, 3) := by decide +kernel
theorem dX7_set_34 : decode cX7_set 34 = .ok (.invokevirtual 52, 3) := by decide +kernel
theorem dX7_set_37 : decode cX7_set 37 = .ok (.aload_n 0, 1) := by decide +kernel
theorem dX7_set_38 : decode cX7_set 38 = .ok (.getfield 10, 3) := by decide +kernel
theorem dX7_set_41 : decode cX7_set 41 = .ok (.getfield 90, 3) := by decide +kernel
theorem dX7_set_44 : decode cX7_set 44 = .ok (.iload_n 1, 1) := by decide +kernel
theorem dX7_set_45 : decode cX7_set 45 = .ok (.iaload, 1) := by decide +kernel
theorem dX7_set_46 : decode cX7_set 46 = .ok (.istore_n 3, 1) := by decide +kernel
theorem dX7_set_47 : decode cX7_set 47 = .ok (.aload_n 0, 1) := by decide +kernel
theorem dX7_set_48 : decode cX7_set 48 = .ok (.getfield 10, 3) := by decide +kernel
theorem dX7_set_51 : decode cX7_set 51 = .ok (.getfield 90, 3) := by decide +kernel
theorem dX7_set_54 : decode cX7_set 54 = .ok (.iload_n 1, 1) := by decide +kernel
theorem dX7_set_55 : decode cX7_set 55 = .ok (.iload_n 2, 1) := by decide +kernel
theorem dX7_set_56 : decode cX7_set 56 = .ok (.iastore, 1) := by decide +kernel
theorem dX7_set_57 : decode cX7_set 57 = .ok (.iload_n 3, 1) := by decide +kernel
theorem dX7_set_58 : decode cX7_set 58 = .ok (.ireturn, 1) := by decide +kernel
set_option maxRecDepth 20000 in
theorem ggX7_hire_X6_takeHours : GoodIn wsX7_hire wsX6_takeHours := goodIn_r _ [15, 16, 17, 184, 185, 186, 187, 188, 189, 190] (by decide +kernel) (by decide +kernel)
set_option maxRecDepth 20000 in
theorem gX7_hire_X6_takeHours : GoodIn wsX7_hire (wsV RX7 99 RX6 yX6_takeHours wsX6_takeHours) := goodIn_app (goodIn_of _ (by decide +kernel)) ggX7_hire_X6_takeHours
set_option maxRecDepth 20000 in
theorem ggX7_hire_X6_takeSeries : GoodIn wsX7_hire wsX6_takeSeries := goodIn_r _ [21, 22, 23, 24, 184, 185, 186, 187, 188, 189, 190] (by decide +kernel) (by decide +kernel)
set_option maxRecDepth 20000 in
theorem gX7_hire_X6_takeSeries : GoodIn wsX7_hire (wsV RX7 103 RX6 yX6_takeSeries wsX6_takeSeries) := goodIn_app (goodIn_of _ (by decide +kernel)) ggX7_hire_X6_takeSeries
set_option maxRecDepth 20000 in
theorem ggX7_hire_X0_isHirer : GoodIn wsX7_hire wsX0_isHirer := goodIn_r _ [29, 30, 191, 192, 193, 194, 195, 196, 197, 198, 199] (by decide +kernel) (by decide +kernel)
set_option maxRecDepth 20000 in
theorem gX7_hire_X0_isHirer : GoodIn wsX7_hire (wsV RX7 56 RX0 yX0_isHirer wsX0_isHirer) := goodIn_app (goodIn_of _ (by decide +kernel)) ggX7_hire_X0_isHirer
set_option maxRecDepth 20000 in
theorem ggX7_hire_X7_areRooms : GoodIn wsX7_hire wsX7_areRooms := goodIn_r _ [34] (by decide +kernel) (by decide +kernel)
set_option maxRecDepth 20000 in
theorem gX7_hire_X7_areRooms : GoodIn wsX7_hire (va_wsS RX7 106 yX7_areRooms wsX7_areRooms) := goodIn_app (goodIn_of _ (by decide +kernel)) ggX7_hire_X7_areRooms
set_option maxRecDepth 20000 in
theorem ggX7_hire_X6_isInRange : GoodIn wsX7_hire wsX6_isInRange := goodIn_r _ [38, 22, 16, 17, 23, 24, 184, 185, 186, 187, 188, 189, 190] (by decide +kernel) (by decide +kernel)
set_option maxRecDepth 20000 in
theorem gX7_hire_X6_isInRange : GoodIn wsX7_hire (wsV RX7 112 RX6 yX6_isInRange wsX6_isInRange) := goodIn_app (goodIn_of _ (by decide +kernel)) ggX7_hire_X6_isInRange
set_option maxRecDepth 20000 in
theorem ggX7_hire_X6_lastDay : GoodIn wsX7_hire wsX6_lastDay := goodIn_r _ [42, 22, 23, 24, 184, 185, 186, 187, 188, 189, 190] (by decide +kernel) (by decide +kernel)
set_option maxRecDepth 20000 in
theorem gX7_hire_X6_lastDay : GoodIn wsX7_hire (wsV RX7 115 RX6 yX6_lastDay wsX6_lastDay) := goodIn_app (goodIn_of _ (by decide +kernel)) ggX7_hire_X6_lastDay
set_option maxRecDepth 20000 in
theorem ggX7_hire_X0_clashOf : GoodIn wsX7_hire wsX0_clashOf := goodIn_r _ [46, 47, 48, 49, 50, 51, 52, 28, 53, 54, 55, 56, 57, 58, 59, 60, 61, 62, 63, 64, 65, 66, 67, 68, 69, 70, 71, 72, 73, 74, 75, 76, 77, 78, 79, 80, 81, 82, 83, 84, 85, 86, 87, 88, 89, 90, 91, 92, 184, 185, 186, 187, 188, 189, 190, 191, 192, 193, 194, 195, 196, 197, 198, 199, 200, 201, 202, 203, 204, 205, 206, 207, 208, 209, 210, 211, 212, 213, 214] (by decide +kernel) (by decide +kernel)
set_option maxRecDepth 20000 in
theorem gX7_hire_X0_clashOf : GoodIn wsX7_hire (wsV RX7 120 RX0 yX0_clashOf wsX0_clashOf) := goodIn_app (goodIn_of _ (by decide +kernel)) ggX7_hire_X0_clashOf
set_option maxRecDepth 20000 in
theorem ggX7_hire_X0_isFull : GoodIn wsX7_hire wsX0_isFull := goodIn_r _ [96, 97, 191, 192, 193, 194, 195, 196, 197, 198, 199] (by decide +kernel) (by decide +kernel)
set_option maxRecDepth 20000 in
theorem gX7_hire_X0_isFull : GoodIn wsX7_hire (wsV RX7 124 RX0 yX0_isFull wsX0_isFull) := goodIn_app (goodIn_of _ (by decide +kernel)) ggX7_hire_X0_isFull
set_option maxRecDepth 20000 in
theorem ggX7_hire_X2_save : GoodIn wsX7_hire wsX2_save := goodIn_r _ [102, 103, 104, 105, 106, 107, 101, 108, 109, 110, 111, 28, 112, 113, 30, 97, 74, 114, 115, 116, 117, 118, 119, 120, 54, 121, 122, 123, 124, 58, 125, 126, 127, 85, 128, 66, 64, 65, 129, 130, 67, 131, 132, 133, 134, 135, 136, 137, 138, 139, 140, 141, 142, 215, 216, 191, 192, 193, 194, 195, 196, 197, 198, 199, 200, 201, 202, 203, 204, 205, 206, 207, 208, 209, 210, 211, 212, 213, 214, 217, 218, 219] (by decide +kernel) (by decide +kernel)
set_option maxRecDepth 20000 in
theorem gX7_hire_X2_save : GoodIn wsX7_hire (wsV RX7 52 RX2 yX2_save wsX2_save) := goodIn_app (goodIn_of _ (by decide +kernel)) ggX7_hire_X2_save
set_option maxRecDepth 20000 in
theorem ggX7_hire_X0_make : GoodIn wsX7_hire wsX0_make := goodIn_r _ [146, 97, 54, 147, 74, 73, 118, 148, 149, 150, 28, 151, 47, 152, 153, 154, 155, 80, 77, 156, 157, 158, 159, 76, 160, 33, 161, 162, 163, 164, 58, 165, 166, 126, 167, 127, 168, 85, 169, 128, 170, 66, 171, 64, 172, 65, 129, 131, 173, 174, 175, 176, 119, 177, 26, 27, 29, 30, 191, 192, 193, 194, 195, 196, 197, 198, 199, 184, 185, 186, 187, 188, 189, 190, 200, 201, 202, 203, 204, 205, 206, 207, 208, 209, 210, 211, 212, 213, 214] (by decide +kernel) (by decide +kernel)
set_option maxRecDepth 20000 in
theorem gX7_hire_X0_make : GoodIn wsX7_hire (wsV RX7 128 RX0 yX0_make wsX0_make) := goodIn_app (goodIn_of _ (by decide +kernel)) ggX7_hire_X0_make
theorem dX7_hire_0 : decode cX7_hire 0 = .ok (.aload_n 0, 1) := by decide +kernel
theorem dX7_hire_1 : decode cX7_hire 1 = .ok (.getfield 40, 3) := by decide +kernel
theorem dX7_hire_4 : decode cX7_hire 4 = .ok (.iload_n 1, 1) := by decide +kernel
theorem dX7_hire_5 : decode cX7_hire 5 = .ok (.putfield 93, 3) := by decide +kernel
theorem dX7_hire_8 : decode cX7_hire 8 = .ok (.aload_n 0, 1) := by decide +kernel
theorem dX7_hire_9 : decode cX7_hire 9 = .ok (.getfield 40, 3) := by decide +kernel
theorem dX7_hire_12 : decode cX7_hire 12 = .ok (.iload_n 2, 1) := by decide +kernel
theorem dX7_hire_13 : decode cX7_hire 13 = .ok (.putfield 96, 3) := by decide +kernel
theorem dX7_hire_16 : decode cX7_hire 16 = .ok (.aload_n 0, 1) := by decide +kernel
theorem dX7_hire_17 : decode cX7_hire 17 = .ok (.getfield 40, 3) := by decide +kernel
theorem dX7_hire_20 : decode cX7_hire 20 = .ok (.iload 4, 2) := by decide +kernel
theorem dX7_hire_22 : decode cX7_hire 22 = .ok (.invokevirtual 99, 3) := by decide +kernel
theorem dX7_hire_25 : decode cX7_hire 25 = .ok (.aload_n 0, 1) := by decide +kernel
theorem dX7_hire_26 : decode cX7_hire 26 = .ok (.getfield 40, 3) := by decide +kernel
theorem dX7_hire_29 : decode cX7_hire 29 = .ok (.iload_n 3, 1) := by decide +kernel
theorem dX7_hire_30 : decode cX7_hire 30 = .ok (.iload 5, 2) := by decide +kernel
theorem dX7_hire_32 : decode cX7_hire 32 = .ok (.iload 6, 2) := by decide +kernel
theorem dX7_hire_34 : decode cX7_hire 34 = .ok (.invokevirtual 103, 3) := by decide +kernel
theorem dX7_hire_37 : decode cX7_hire 37 = .ok (.aload_n 0, 1) := by decide +kernel
theorem dX7_hire_38 : decode cX7_hire 38 = .ok (.getfield 10, 3) := by decide +kernel
theorem dX7_hire_41 : decode cX7_hire 41 = .ok (.iload_n 1, 1) := by decide +kernel
theorem dX7_hire_42 : decode cX7_hire 42 = .ok (.invokevirtual 56, 3) := by decide +kernel
theorem dX7_hire_45 : decode cX7_hire 45 = .ok (.ifCond .eq 27, 3) := by decide +kernel
theorem dX7_hire_48 : decode cX7_hire 48 = .ok (.iload_n 2, 1) := by decide +kernel
theorem dX7_hire_49 : decode cX7_hire 49 = .ok (.invokestatic 106, 3) := by decide +kernel
theorem dX7_hire_52 : decode cX7_hire 52 = .ok (.ifCond .eq 20, 3) := by decide +kernel
theorem dX7_hire_55 : decode cX7_hire 55 = .ok (.aload_n 0, 1) := by decide +kernel
theorem dX7_hire_56 : decode cX7_hire 56 = .ok (.getfield 40, 3) := by decide +kernel
theorem dX7_hire_59 : decode cX7_hire 59 = .ok (.aload_n 0, 1) := by decide +kernel
theorem dX7_hire_60 : decode cX7_hire 60 = .ok (.getfield 10, 3) := by decide +kernel
theorem dX7_hire_63 : decode cX7_hire 63 = .ok (.getfield 109, 3) := by decide +kernel
theorem dX7_hire_66 : decode cX7_hire 66 = .ok (.invokevirtual 112, 3) := by decide +kernel
theorem dX7_hire_69 : decode cX7_hire 69 = .ok (.ifCond .ne 6, 3) := by decide +kernel
theorem dX7_hire_72 : decode cX7_hire 72 = .ok (.ldc 60, 2) := by decide +kernel
theorem dX7_hire_74 : decode cX7_hire 74 = .ok (.ireturn, 1) := by decide +kernel
theorem dX7_hire_75 : decode cX7_hire 75 = .ok (.aload_n 0, 1) := by decide +kernel
theorem dX7_hire_76 : decode cX7_hire 76 = .ok (.getfield 40, 3) := by decide +kernel
theorem dX7_hire_79 : decode cX7_hire 79 = .ok (.invokevirtual 115, 3) := by decide +kernel
theorem dX7_hire_82 : decode cX7_hire 82 = .ok (.sipush 364, 3) := by decide +kernel
theorem dX7_hire_85 : decode cX7_hire 85 = .ok (.if_icmp .le 6, 3) := by decide +kernel
theorem dX7_hire_88 : decode cX7_hire 88 = .ok (.ldc 119, 2) := by decide +kernel
theorem dX7_hire_90 : decode cX7_hire 90 = .ok (.ireturn, 1) := by decide +kernel
theorem dX7_hire_91 : decode cX7_hire 91 = .ok (.aload_n 0, 1) := by decide +kernel
theorem dX7_hire_92 : decode cX7_hire 92 = .ok (.getfield 10, 3) := by decide +kernel
theorem dX7_hire_95 : decode cX7_hire 95 = .ok (.aload_n 0, 1) := by decide +kernel
theorem dX7_hire_96 : decode cX7_hire 96 = .ok (.getfield 40, 3) := by decide +kernel
theorem dX7_hire_99 : decode cX7_hire 99 = .ok (.invokevirtual 120, 3) := by decide +kernel
theorem dX7_hire_102 : decode cX7_hire 102 = .ok (.istore 7, 2) := by decide +kernel
theorem dX7_hire_104 : decode cX7_hire 104 = .ok (.iload 7, 2) := by decide +kernel
theorem dX7_hire_106 : decode cX7_hire 106 = .ok (.iconst (-1), 1) := by decide +kernel
theorem dX7_hire_107 : decode cX7_hire 107 = .ok (.if_icmp .eq 12, 3) := by decide +kernel
theorem dX7_hire_110 : decode cX7_hire 110 = .ok (.aload_n 0, 1) := by decide +kernel
theorem dX7_hire_111 : decode cX7_hire 111 = .ok (.iload 7, 2) := by decide +kernel
theorem dX7_hire_113 : decode cX7_hire 113 = .ok (.putfield 44, 3) := by decide +kernel
theorem dX7_hire_116 : decode cX7_hire 116 = .ok (.ldc 119, 2) := by decide +kernel
theorem dX7_hire_118 : decode cX7_hire 118 = .ok (.ireturn, 1) := by decide +kernel
theorem dX7_hire_119 : decode cX7_hire 119 = .ok (.aload_n 0, 1) := by decide +kernel
theorem dX7_hire_120 : decode cX7_hire 120 = .ok (.getfield 10, 3) := by decide +kernel
theorem dX7_hire_123 : decode cX7_hire 123 = .ok (.invokevirtual 124, 3) := by decide +kernel
theorem dX7_hire_126 : decode cX7_hire 126 = .ok (.ifCond .eq 6, 3) := by decide +kernel
theorem dX7_hire_129 : decode cX7_hire 129 = .ok (.ldc 51, 2) := by decide +kernel
theorem dX7_hire_131 : decode cX7_hire 131 = .ok (.ireturn, 1) := by decide +kernel
theorem dX7_hire_132 : decode cX7_hire 132 = .ok (.aload_n 0, 1) := by decide +kernel
theorem dX7_hire_133 : decode cX7_hire 133 = .ok (.getfield 19, 3) := by decide +kernel
theorem dX7_hire_136 : decode cX7_hire 136 = .ok (.aload_n 0, 1) := by decide +kernel
theorem dX7_hire_137 : decode cX7_hire 137 = .ok (.getfield 10, 3) := by decide +kernel
theorem dX7_hire_140 : decode cX7_hire 140 = .ok (.invokevirtual 52, 3) := by decide +kernel
theorem dX7_hire_143 : decode cX7_hire 143 = .ok (.aload_n 0, 1) := by decide +kernel
theorem dX7_hire_144 : decode cX7_hire 144 = .ok (.getfield 10, 3) := by decide +kernel
theorem dX7_hire_147 : decode cX7_hire 147 = .ok (.aload_n 0, 1) := by decide +kernel
theorem dX7_hire_148 : decode cX7_hire 148 = .ok (.getfield 40, 3) := by decide +kernel
theorem dX7_hire_151 : decode cX7_hire 151 = .ok (.invokevirtual 128, 3) := by decide +kernel
theorem dX7_hire_154 : decode cX7_hire 154 = .ok (.ireturn, 1) := by decide +kernel
theorem dX7_clash_0 : decode cX7_clash 0 = .ok (.aload_n 0, 1) := by decide +kernel
theorem dX7_clash_1 : decode cX7_clash 1 = .ok (.getfield 44, 3) := by decide +kernel
theorem dX7_clash_4 : decode cX7_clash 4 = .ok (.iconst (-1), 1) := by decide +kernel
theorem dX7_clash_5 : decode cX7_clash 5 = .ok (.if_icmp .ne 8, 3) := by decide +kernel
theorem dX7_clash_8 : decode cX7_clash 8 = .ok (.ldc 131, 2) := by decide +kernel
theorem dX7_clash_10 : decode cX7_clash 10 = .ok (.goto 7, 3) := by decide +kernel
theorem dX7_clash_13 : decode cX7_clash 13 = .ok (.aload_n 0, 1) := by decide +kernel
theorem dX7_clash_14 : decode cX7_clash 14 = .ok (.getfield 44, 3) := by decide +kernel
theorem dX7_clash_17 : decode cX7_clash 17 = .ok (.ireturn, 1) := by decide +kernel
set_option maxRecDepth 20000 in
theorem ggX7_hireInfo_X0_hireAt : GoodIn wsX7_hireInfo wsX0_hireAt := goodIn_r _ [7, 8, 9, 55, 56, 57, 58, 59, 60, 61, 62, 63] (by decide +kernel) (by decide +kernel)
set_option maxRecDepth 20000 in
theorem gX7_hireInfo_X0_hireAt : GoodIn wsX7_hireInfo (wsV RX7 132 RX0 yX0_hireAt wsX0_hireAt) := goodIn_app (goodIn_of _ (by decide +kernel)) ggX7_hireInfo_X0_hireAt
set_option maxRecDepth 20000 in
theorem ggX7_hireInfo_X0_keysFor : GoodIn wsX7_hireInfo wsX0_keysFor := goodIn_r _ [13, 14, 15, 55, 56, 57, 58, 59, 60, 61, 62, 63, 64, 65, 66] (by decide +kernel) (by decide +kernel)
set_option maxRecDepth 20000 in
theorem gX7_hireInfo_X0_keysFor : GoodIn wsX7_hireInfo (wsV RX7 136 RX0 yX0_keysFor wsX0_keysFor) := goodIn_app (goodIn_of _ (by decide +kernel)) ggX7_hireInfo_X0_keysFor
set_option maxRecDepth 20000 in
theorem ggX7_hireInfo_X1_property : GoodIn wsX7_hireInfo wsX1_property := goodIn_r _ [20, 21, 22, 23, 24, 25, 26, 27, 28, 29, 30, 31, 32, 33, 34, 35, 36, 37, 38, 39, 40, 19, 41, 42, 43, 44, 45, 46, 47, 48, 67, 68, 69, 70, 71, 72, 73, 74, 75, 76, 77, 78, 79, 80, 81] (by decide +kernel) (by decide +kernel)
set_option maxRecDepth 20000 in
theorem gX7_hireInfo_X1_property : GoodIn wsX7_hireInfo (wsV RX7 139 RX1 yX1_property wsX1_property) := goodIn_app (goodIn_of _ (by decide +kernel)) ggX7_hireInfo_X1_property
theorem dX7_hireInfo_0 : decode cX7_hireInfo 0 = .ok (.aload_n 0, 1) := by decide +kernel
theorem dX7_hireInfo_1 : decode cX7_hireInfo 1 = .ok (.getfield 10, 3) := by decide +kernel
theorem dX7_hireInfo_4 : decode cX7_hireInfo 4 = .ok (.iload_n 1, 1) := by decide +kernel
theorem dX7_hireInfo_5 : decode cX7_hireInfo 5 = .ok (.invokevirtual 132, 3) := by decide +kernel
theorem dX7_hireInfo_8 : decode cX7_hireInfo 8 = .ok (.astore_n 3, 1) := by decide +kernel
theorem dX7_hireInfo_9 : decode cX7_hireInfo 9 = .ok (.aload_n 3, 1) := by decide +kernel
theorem dX7_hireInfo_10 : decode cX7_hireInfo 10 = .ok (.ifnonnull 6, 3) := by decide +kernel
theorem dX7_hireInfo_13 : decode cX7_hireInfo 13 = .ok (.ldc 60, 2) := by decide +kernel
theorem dX7_hireInfo_15 : decode cX7_hireInfo 15 = .ok (.ireturn, 1) := by decide +kernel
theorem dX7_hireInfo_16 : decode cX7_hireInfo 16 = .ok (.iload_n 2, 1) := by decide +kernel
theorem dX7_hireInfo_17 : decode cX7_hireInfo 17 = .ok (.bipush 14, 2) := by decide +kernel
theorem dX7_hireInfo_19 : decode cX7_hireInfo 19 = .ok (.if_icmp .ne 14, 3) := by decide +kernel
theorem dX7_hireInfo_22 : decode cX7_hireInfo 22 = .ok (.aload_n 0, 1) := by decide +kernel
theorem dX7_hireInfo_23 : decode cX7_hireInfo 23 = .ok (.getfield 10, 3) := by decide +kernel
theorem dX7_hireInfo_26 : decode cX7_hireInfo 26 = .ok (.iload_n 1, 1) := by decide +kernel
theorem dX7_hireInfo_27 : decode cX7_hireInfo 27 = .ok (.invokevirtual 136, 3) := by decide +kernel
theorem dX7_hireInfo_30 : decode cX7_hireInfo 30 = .ok (.goto 8, 3) := by decide +kernel
theorem dX7_hireInfo_33 : decode cX7_hireInfo 33 = .ok (.aload_n 3, 1) := by decide +kernel
theorem dX7_hireInfo_34 : decode cX7_hireInfo 34 = .ok (.iload_n 2, 1) := by decide +kernel
theorem dX7_hireInfo_35 : decode cX7_hireInfo 35 = .ok (.invokevirtual 139, 3) := by decide +kernel
theorem dX7_hireInfo_38 : decode cX7_hireInfo 38 = .ok (.ireturn, 1) := by decide +kernel
set_option maxRecDepth 20000 in
theorem ggX7_session_X0_hireOfSession : GoodIn wsX7_session wsX0_hireOfSession := goodIn_r _ [9, 10, 11, 12, 13, 8, 14, 15, 16, 57, 58, 59, 60, 61, 62, 63, 64, 65, 66, 67, 68, 69, 70, 71, 48, 49, 50, 51, 52, 53, 54, 55, 56] (by decide +kernel) (by decide +kernel)
set_option maxRecDepth 20000 in
theorem gX7_session_X0_hireOfSession : GoodIn wsX7_session (wsV RX7 144 RX0 yX0_hireOfSession wsX0_hireOfSession) := goodIn_app (goodIn_of _ (by decide +kernel)) ggX7_session_X0_hireOfSession
set_option maxRecDepth 20000 in
theorem ggX7_session_X1_dayOf : GoodIn wsX7_session wsX1_dayOf := goodIn_r _ [21, 22, 23, 57, 58, 59, 60, 61, 62, 63, 64, 65, 66, 67, 68, 69, 70, 71] (by decide +kernel) (by decide +kernel)
set_option maxRecDepth 20000 in
theorem gX7_session_X1_dayOf : GoodIn wsX7_session (wsV RX7 147 RX1 yX1_dayOf wsX1_dayOf) := goodIn_app (goodIn_of _ (by decide +kernel)) ggX7_session_X1_dayOf
set_option maxRecDepth 20000 in
theorem ggX7_session_X1_stateOf : GoodIn wsX7_session wsX1_stateOf := goodIn_r _ [27, 28, 29, 57, 58, 59, 60, 61, 62, 63, 64, 65, 66, 67, 68, 69, 70, 71] (by decide +kernel) (by decide +kernel)
set_option maxRecDepth 20000 in
theorem gX7_session_X1_stateOf : GoodIn wsX7_session (wsV RX7 150 RX1 yX1_stateOf wsX1_stateOf) := goodIn_app (goodIn_of _ (by decide +kernel)) ggX7_session_X1_stateOf
set_option maxRecDepth 20000 in
theorem ggX7_session_X1_shareOf : GoodIn wsX7_session wsX1_shareOf := goodIn_r _ [33, 34, 35, 57, 58, 59, 60, 61, 62, 63, 64, 65, 66, 67, 68, 69, 70, 71] (by decide +kernel) (by decide +kernel)
set_option maxRecDepth 20000 in
theorem gX7_session_X1_shareOf : GoodIn wsX7_session (wsV RX7 153 RX1 yX1_shareOf wsX1_shareOf) := goodIn_app (goodIn_of _ (by decide +kernel)) ggX7_session_X1_shareOf
set_option maxRecDepth 20000 in
theorem ggX7_session_X1_refundOf : GoodIn wsX7_session wsX1_refundOf := goodIn_r _ [39, 40, 18, 19, 20, 21, 22, 23, 41, 31, 32, 33, 34, 35, 57, 58, 59, 60, 61, 62, 63, 64, 65, 66, 67, 68, 69, 70, 71] (by decide +kernel) (by decide +kernel)
set_option maxRecDepth 20000 in
theorem gX7_session_X1_refundOf : GoodIn wsX7_session (wsV RX7 156 RX1 yX1_refundOf wsX1_refundOf) := goodIn_app (goodIn_of _ (by decide +kernel)) ggX7_session_X1_refundOf
theorem dX7_session_0 : decode cX7_session 0 = .ok (.aload_n 0, 1) := by decide +kernel
theorem dX7_session_1 : decode cX7_session 1 = .ok (.getfield 10, 3) := by decide +kernel
theorem dX7_session_4 : decode cX7_session 4 = .ok (.iload_n 1, 1) := by decide +kernel
theorem dX7_session_5 : decode cX7_session 5 = .ok (.invokevirtual 144, 3) := by decide +kernel
theorem dX7_session_8 : decode cX7_session 8 = .ok (.astore_n 3, 1) := by decide +kernel
theorem dX7_session_9 : decode cX7_session 9 = .ok (.aload_n 3, 1) := by decide +kernel
theorem dX7_session_10 : decode cX7_session 10 = .ok (.ifnonnull 6, 3) := by decide +kernel
theorem dX7_session_13 : decode cX7_session 13 = .ok (.ldc 60, 2) := by decide +kernel
theorem dX7_session_15 : decode cX7_session 15 = .ok (.ireturn, 1) := by decide +kernel
theorem dX7_session_16 : decode cX7_session 16 = .ok (.iload_n 1, 1) := by decide +kernel
theorem dX7_session_17 : decode cX7_session 17 = .ok (.bipush 20, 2) := by decide +kernel
theorem dX7_session_19 : decode cX7_session 19 = .ok (.irem, 1) := by decide +kernel
theorem dX7_session_20 : decode cX7_session 20 = .ok (.istore 4, 2) := by decide +kernel
theorem dX7_session_22 : decode cX7_session 22 = .ok (.iload_n 2, 1) := by decide +kernel
theorem dX7_session_23 : decode cX7_session 23 = .ok (.tableswitch 78 0 3 #[29, 36, 43, 50], 29) := by decide +kernel
theorem dX7_session_52 : decode cX7_session 52 = .ok (.aload_n 3, 1) := by decide +kernel
theorem dX7_session_53 : decode cX7_session 53 = .ok (.iload 4, 2) := by decide +kernel
theorem dX7_session_55 : decode cX7_session 55 = .ok (.invokevirtual 147, 3) := by decide +kernel
theorem dX7_session_58 : decode cX7_session 58 = .ok (.ireturn, 1) := by decide +kernel
theorem dX7_session_59 : decode cX7_session 59 = .ok (.aload_n 3, 1) := by decide +kernel
theorem dX7_session_60 : decode cX7_session 60 = .ok (.iload 4, 2) := by decide +kernel
theorem dX7_session_62 : decode cX7_session 62 = .ok (.invokevirtual 150, 3) := by decide +kernel
theorem dX7_session_65 : decode cX7_session 65 = .ok (.ireturn, 1) := by decide +kernel
theorem dX7_session_66 : decode cX7_session 66 = .ok (.aload_n 3, 1) := by decide +kernel
theorem dX7_session_67 : decode cX7_session 67 = .ok (.iload 4, 2) := by decide +kernel
theorem dX7_session_69 : decode cX7_session 69 = .ok (.invokevirtual 153, 3) := by decide +kernel
theorem dX7_session_72 : decode cX7_session 72 = .ok (.ireturn, 1) := by decide +kernel
theorem dX7_session_73 : decode cX7_session 73 = .ok (.aload_n 3, 1) := by decide +kernel
theorem dX7_session_74 : decode cX7_session 74 = .ok (.iload 4, 2) := by decide +kernel
theorem dX7_session_76 : decode cX7_session 76 = .ok (.invokevirtual 150, 3) := by decide +kernel
theorem dX7_session_79 : decode cX7_session 79 = .ok (.ifCond .ne 19, 3) := by decide +kernel
theorem dX7_session_82 : decode cX7_session 82 = .ok (.aload_n 3, 1) := by decide +kernel
theorem dX7_session_83 : decode cX7_session 83 = .ok (.iload 4, 2) := by decide +kernel
theorem dX7_session_85 : decode cX7_session 85 = .ok (.aload_n 0, 1) := by decide +kernel
theorem dX7_session_86 : decode cX7_session 86 = .ok (.getfield 10, 3) := by decide +kernel
theorem dX7_session_89 : decode cX7_session 89 = .ok (.getfield 109, 3) := by decide +kernel
theorem dX7_session_92 : decode cX7_session 92 = .ok (.invokevirtual 156, 3) := by decide +kernel
theorem dX7_session_95 : decode cX7_session 95 = .ok (.goto 5, 3) := by decide +kernel
theorem dX7_session_98 : decode cX7_session 98 = .ok (.ldc 131, 2) := by decide +kernel
theorem dX7_session_100 : decode cX7_session 100 = .ok (.ireturn, 1) := by decide +kernel
theorem dX7_session_101 : decode cX7_session 101 = .ok (.ldc 60, 2) := by decide +kernel
theorem dX7_session_103 : decode cX7_session 103 = .ok (.ireturn, 1) := by decide +kernel
set_option maxRecDepth 20000 in
theorem ggX7_cancel_X0_hireOfSession : GoodIn wsX7_cancel wsX0_hireOfSession := goodIn_r _ [12, 13, 14, 15, 16, 11, 17, 18, 19, 112, 113, 114, 115, 116, 117, 118, 119, 120, 121, 122, 123, 124, 125, 126, 103, 104, 105, 106, 107, 108, 109, 110, 111] (by decide +kernel) (by decide +kernel)
set_option maxRecDepth 20000 in
theorem gX7_cancel_X0_hireOfSession : GoodIn wsX7_cancel (wsV RX7 144 RX0 yX0_hireOfSession wsX0_hireOfSession) := goodIn_app (goodIn_of _ (by decide +kernel)) ggX7_cancel_X0_hireOfSession
set_option maxRecDepth 20000 in
theorem ggX7_cancel_X1_stateOf : GoodIn wsX7_cancel wsX1_stateOf := goodIn_r _ [24, 25, 26, 112, 113, 114, 115, 116, 117, 118, 119, 120, 121, 122, 123, 124, 125, 126] (by decide +kernel) (by decide +kernel)
set_option maxRecDepth 20000 in
theorem gX7_cancel_X1_stateOf : GoodIn wsX7_cancel (wsV RX7 150 RX1 yX1_stateOf wsX1_stateOf) := goodIn_app (goodIn_of _ (by decide +kernel)) ggX7_cancel_X1_stateOf
set_option maxRecDepth 20000 in
theorem ggX7_cancel_X2_save : GoodIn wsX7_cancel wsX2_save := goodIn_r _ [31, 32, 33, 34, 35, 36, 30, 37, 38, 39, 40, 11, 41, 42, 43, 18, 44, 45, 46, 47, 48, 49, 50, 51, 19, 52, 53, 54, 55, 23, 56, 57, 58, 59, 60, 61, 62, 63, 64, 25, 26, 65, 66, 67, 68, 69, 70, 71, 72, 73, 74, 75, 76, 127, 128, 103, 104, 105, 106, 107, 108, 109, 110, 111, 112, 113, 114, 115, 116, 117, 118, 119, 120, 121, 122, 123, 124, 125, 126, 129, 130, 131] (by decide +kernel) (by decide +kernel)
set_option maxRecDepth 20000 in
theorem gX7_cancel_X2_save : GoodIn wsX7_cancel (wsV RX7 52 RX2 yX2_save wsX2_save) := goodIn_app (goodIn_of _ (by decide +kernel)) ggX7_cancel_X2_save
set_option maxRecDepth 20000 in
theorem ggX7_cancel_X1_refundOf : GoodIn wsX7_cancel wsX1_refundOf := goodIn_r _ [80, 81, 82, 83, 23, 84, 62, 63, 85, 86, 87, 88, 61, 64, 112, 113, 114, 115, 116, 117, 118, 119, 120, 121, 122, 123, 124, 125, 126] (by decide +kernel) (by decide +kernel)
set_option maxRecDepth 20000 in
theorem gX7_cancel_X1_refundOf : GoodIn wsX7_cancel (wsV RX7 156 RX1 yX1_refundOf wsX1_refundOf) := goodIn_app (goodIn_of _ (by decide +kernel)) ggX7_cancel_X1_refundOf
set_option maxRecDepth 20000 in
theorem ggX7_cancel_X0_credit : GoodIn wsX7_cancel wsX0_credit := goodIn_r _ [92, 51, 49, 93, 94, 95, 11, 96, 43, 103, 104, 105, 106, 107, 108, 109, 110, 111] (by decide +kernel) (by decide +kernel)
set_option maxRecDepth 20000 in
theorem gX7_cancel_X0_credit : GoodIn wsX7_cancel (wsV RX7 83 RX0 yX0_credit wsX0_credit) := goodIn_app (goodIn_of _ (by decide +kernel)) ggX7_cancel_X0_credit
theorem dX7_cancel_0 : decode cX7_cancel 0 = .ok (.aload_n 0, 1) := by decide +kernel
theorem dX7_cancel_1 : decode cX7_cancel 1 = .ok (.getfield 10, 3) := by decide +kernel
theorem dX7_cancel_4 : decode cX7_cancel 4 = .ok (.iload_n 1, 1) := by decide +kernel
theorem dX7_cancel_5 : decode cX7_cancel 5 = .ok (.invokevirtual 144, 3) := by decide +kernel
theorem dX7_cancel_8 : decode cX7_cancel 8 = .ok (.astore_n 2, 1) := by decide +kernel
theorem dX7_cancel_9 : decode cX7_cancel 9 = .ok (.aload_n 2, 1) := by decide +kernel
theorem dX7_cancel_10 : decode cX7_cancel 10 = .ok (.ifnonnull 6, 3) := by decide +kernel
theorem dX7_cancel_13 : decode cX7_cancel 13 = .ok (.ldc 60, 2) := by decide +kernel
theorem dX7_cancel_15 : decode cX7_cancel 15 = .ok (.ireturn, 1) := by decide +kernel
theorem dX7_cancel_16 : decode cX7_cancel 16 = .ok (.iload_n 1, 1) := by decide +kernel
theorem dX7_cancel_17 : decode cX7_cancel 17 = .ok (.bipush 20, 2) := by decide +kernel
theorem dX7_cancel_19 : decode cX7_cancel 19 = .ok (.irem, 1) := by decide +kernel
theorem dX7_cancel_20 : decode cX7_cancel 20 = .ok (.istore_n 3, 1) := by decide +kernel
theorem dX7_cancel_21 : decode cX7_cancel 21 = .ok (.aload_n 2, 1) := by decide +kernel
theorem dX7_cancel_22 : decode cX7_cancel 22 = .ok (.iload_n 3, 1) := by decide +kernel
theorem dX7_cancel_23 : decode cX7_cancel 23 = .ok (.invokevirtual 150, 3) := by decide +kernel
theorem dX7_cancel_26 : decode cX7_cancel 26 = .ok (.ifCond .eq 6, 3) := by decide +kernel
theorem dX7_cancel_29 : decode cX7_cancel 29 = .ok (.ldc 119, 2) := by decide +kernel
theorem dX7_cancel_31 : decode cX7_cancel 31 = .ok (.ireturn, 1) := by decide +kernel
theorem dX7_cancel_32 : decode cX7_cancel 32 = .ok (.aload_n 0, 1) := by decide +kernel
theorem dX7_cancel_33 : decode cX7_cancel 33 = .ok (.getfield 19, 3) := by decide +kernel
theorem dX7_cancel_36 : decode cX7_cancel 36 = .ok (.aload_n 0, 1) := by decide +kernel
theorem dX7_cancel_37 : decode cX7_cancel 37 = .ok (.getfield 10, 3) := by decide +kernel
theorem dX7_cancel_40 : decode cX7_cancel 40 = .ok (.invokevirtual 52, 3) := by decide +kernel
theorem dX7_cancel_43 : decode cX7_cancel 43 = .ok (.aload_n 2, 1) := by decide +kernel
theorem dX7_cancel_44 : decode cX7_cancel 44 = .ok (.iload_n 3, 1) := by decide +kernel
theorem dX7_cancel_45 : decode cX7_cancel 45 = .ok (.aload_n 0, 1) := by decide +kernel
theorem dX7_cancel_46 : decode cX7_cancel 46 = .ok (.getfield 10, 3) := by decide +kernel
theorem dX7_cancel_49 : decode cX7_cancel 49 = .ok (.getfield 109, 3) := by decide +kernel
theorem dX7_cancel_52 : decode cX7_cancel 52 = .ok (.invokevirtual 156, 3) := by decide +kernel
theorem dX7_cancel_55 : decode cX7_cancel 55 = .ok (.istore 4, 2) := by decide +kernel
theorem dX7_cancel_57 : decode cX7_cancel 57 = .ok (.aload_n 2, 1) := by decide +kernel
theorem dX7_cancel_58 : decode cX7_cancel 58 = .ok (.dup, 1) := by decide +kernel
theorem dX7_cancel_59 : decode cX7_cancel 59 = .ok (.getfield 160, 3) := by decide +kernel
theorem dX7_cancel_62 : decode cX7_cancel 62 = .ok (.iconst 1, 1) := by decide +kernel
theorem dX7_cancel_63 : decode cX7_cancel 63 = .ok (.iload_n 3, 1) := by decide +kernel
theorem dX7_cancel_64 : decode cX7_cancel 64 = .ok (.ishl, 1) := by decide +kernel
theorem dX7_cancel_65 : decode cX7_cancel 65 = .ok (.ior, 1) := by decide +kernel
theorem dX7_cancel_66 : decode cX7_cancel 66 = .ok (.putfield 160, 3) := by decide +kernel
theorem dX7_cancel_69 : decode cX7_cancel 69 = .ok (.aload_n 0, 1) := by decide +kernel
theorem dX7_cancel_70 : decode cX7_cancel 70 = .ok (.getfield 10, 3) := by decide +kernel
theorem dX7_cancel_73 : decode cX7_cancel 73 = .ok (.aload_n 2, 1) := by decide +kernel
theorem dX7_cancel_74 : decode cX7_cancel 74 = .ok (.getfield 163, 3) := by decide +kernel
theorem dX7_cancel_77 : decode cX7_cancel 77 = .ok (.iload 4, 2) := by decide +kernel
theorem dX7_cancel_79 : decode cX7_cancel 79 = .ok (.iconst 1, 1) := by decide +kernel
theorem dX7_cancel_80 : decode cX7_cancel 80 = .ok (.invokevirtual 83, 3) := by decide +kernel
theorem dX7_cancel_83 : decode cX7_cancel 83 = .ok (.iload 4, 2) := by decide +kernel
theorem dX7_cancel_85 : decode cX7_cancel 85 = .ok (.ireturn, 1) := by decide +kernel
set_option maxRecDepth 20000 in
theorem ggX7_price_X6_takeHours : GoodIn wsX7_price wsX6_takeHours := goodIn_r _ [9, 10, 11, 53, 54, 55, 56, 57, 58, 59] (by decide +kernel) (by decide +kernel)
set_option maxRecDepth 20000 in
theorem gX7_price_X6_takeHours : GoodIn wsX7_price (wsV RX7 99 RX6 yX6_takeHours wsX6_takeHours) := goodIn_app (goodIn_of _ (by decide +kernel)) ggX7_price_X6_takeHours
set_option maxRecDepth 20000 in
theorem ggX7_price_X6_takeSeries : GoodIn wsX7_price wsX6_takeSeries := goodIn_r _ [15, 16, 17, 18, 53, 54, 55, 56, 57, 58, 59] (by decide +kernel) (by decide +kernel)
set_option maxRecDepth 20000 in
theorem gX7_price_X6_takeSeries : GoodIn wsX7_price (wsV RX7 103 RX6 yX6_takeSeries wsX6_takeSeries) := goodIn_app (goodIn_of _ (by decide +kernel)) ggX7_price_X6_takeSeries
set_option maxRecDepth 20000 in
theorem ggX7_price_X7_areRooms : GoodIn wsX7_price wsX7_areRooms := goodIn_r _ [22] (by decide +kernel) (by decide +kernel)
set_option maxRecDepth 20000 in
theorem gX7_price_X7_areRooms : GoodIn wsX7_price (va_wsS RX7 106 yX7_areRooms wsX7_areRooms) := goodIn_app (goodIn_of _ (by decide +kernel)) ggX7_price_X7_areRooms
set_option maxRecDepth 20000 in
theorem ggX7_price_X6_isInRange : GoodIn wsX7_price wsX6_isInRange := goodIn_r _ [26, 16, 10, 11, 17, 18, 53, 54, 55, 56, 57, 58, 59] (by decide +kernel) (by decide +kernel)
set_option maxRecDepth 20000 in
theorem gX7_price_X6_isInRange : GoodIn wsX7_price (wsV RX7 112 RX6 yX6_isInRange wsX6_isInRange) := goodIn_app (goodIn_of _ (by decide +kernel)) ggX7_price_X6_isInRange
set_option maxRecDepth 20000 in
theorem ggX7_price_X0_priceOf : GoodIn wsX7_price wsX0_priceOf := goodIn_r _ [31, 32, 33, 34, 35, 30, 36, 37, 38, 39, 40, 41, 42, 43, 44, 45, 21, 46, 53, 54, 55, 56, 57, 58, 59, 60, 61, 62, 63, 64, 65, 66, 67, 68] (by decide +kernel) (by decide +kernel)
set_option maxRecDepth 20000 in
theorem gX7_price_X0_priceOf : GoodIn wsX7_price (wsV RX7 164 RX0 yX0_priceOf wsX0_priceOf) := goodIn_app (goodIn_of _ (by decide +kernel)) ggX7_price_X0_priceOf
theorem dX7_price_0 : decode cX7_price 0 = .ok (.aload_n 0, 1) := by decide +kernel
theorem dX7_price_1 : decode cX7_price 1 = .ok (.getfield 40, 3) := by decide +kernel
theorem dX7_price_4 : decode cX7_price 4 = .ok (.iload_n 1, 1) := by decide +kernel
theorem dX7_price_5 : decode cX7_price 5 = .ok (.putfield 96, 3) := by decide +kernel
theorem dX7_price_8 : decode cX7_price 8 = .ok (.aload_n 0, 1) := by decide +kernel
theorem dX7_price_9 : decode cX7_price 9 = .ok (.getfield 40, 3) := by decide +kernel
theorem dX7_price_12 : decode cX7_price 12 = .ok (.iload_n 2, 1) := by decide +kernel
theorem dX7_price_13 : decode cX7_price 13 = .ok (.invokevirtual 99, 3) := by decide +kernel
theorem dX7_price_16 : decode cX7_price 16 = .ok (.aload_n 0, 1) := by decide +kernel
theorem dX7_price_17 : decode cX7_price 17 = .ok (.getfield 40, 3) := by decide +kernel
theorem dX7_price_20 : decode cX7_price 20 = .ok (.iconst 0, 1) := by decide +kernel
theorem dX7_price_21 : decode cX7_price 21 = .ok (.iload_n 3, 1) := by decide +kernel
theorem dX7_price_22 : decode cX7_price 22 = .ok (.iconst 1, 1) := by decide +kernel
theorem dX7_price_23 : decode cX7_price 23 = .ok (.invokevirtual 103, 3) := by decide +kernel
theorem dX7_price_26 : decode cX7_price 26 = .ok (.iload_n 1, 1) := by decide +kernel
theorem dX7_price_27 : decode cX7_price 27 = .ok (.invokestatic 106, 3) := by decide +kernel
theorem dX7_price_30 : decode cX7_price 30 = .ok (.ifCond .eq 14, 3) := by decide +kernel
theorem dX7_price_33 : decode cX7_price 33 = .ok (.aload_n 0, 1) := by decide +kernel
theorem dX7_price_34 : decode cX7_price 34 = .ok (.getfield 40, 3) := by decide +kernel
theorem dX7_price_37 : decode cX7_price 37 = .ok (.iconst 0, 1) := by decide +kernel
theorem dX7_price_38 : decode cX7_price 38 = .ok (.invokevirtual 112, 3) := by decide +kernel
theorem dX7_price_41 : decode cX7_price 41 = .ok (.ifCond .ne 6, 3) := by decide +kernel
theorem dX7_price_44 : decode cX7_price 44 = .ok (.ldc 60, 2) := by decide +kernel
theorem dX7_price_46 : decode cX7_price 46 = .ok (.ireturn, 1) := by decide +kernel
theorem dX7_price_47 : decode cX7_price 47 = .ok (.aload_n 0, 1) := by decide +kernel
theorem dX7_price_48 : decode cX7_price 48 = .ok (.getfield 10, 3) := by decide +kernel
theorem dX7_price_51 : decode cX7_price 51 = .ok (.aload_n 0, 1) := by decide +kernel
theorem dX7_price_52 : decode cX7_price 52 = .ok (.getfield 40, 3) := by decide +kernel
theorem dX7_price_55 : decode cX7_price 55 = .ok (.invokevirtual 164, 3) := by decide +kernel
theorem dX7_price_58 : decode cX7_price 58 = .ok (.ireturn, 1) := by decide +kernel
set_option maxRecDepth 20000 in
theorem ggX7_taken_X7_areRooms : GoodIn wsX7_taken wsX7_areRooms := goodIn_r _ [6] (by decide +kernel) (by decide +kernel)
set_option maxRecDepth 20000 in
theorem gX7_taken_X7_areRooms : GoodIn wsX7_taken (va_wsS RX7 106 yX7_areRooms wsX7_areRooms) := goodIn_app (goodIn_of _ (by decide +kernel)) ggX7_taken_X7_areRooms
set_option maxRecDepth 20000 in
theorem ggX7_taken_X0_blockedHours : GoodIn wsX7_taken wsX0_blockedHours := goodIn_r _ [11, 12, 13, 14, 15, 16, 17, 18, 19, 20, 21, 22, 23, 24, 25, 26, 27, 28, 29, 30, 5, 31, 32, 33, 34, 35, 36, 37, 38, 45, 46, 47, 48, 49, 50, 51, 52, 53, 54, 55, 56, 57, 58, 59, 60, 61, 62, 63, 64, 65, 66, 67, 68] (by decide +kernel) (by decide +kernel)
set_option maxRecDepth 20000 in
theorem gX7_taken_X0_blockedHours : GoodIn wsX7_taken (wsV RX7 167 RX0 yX0_blockedHours wsX0_blockedHours) := goodIn_app (goodIn_of _ (by decide +kernel)) ggX7_taken_X0_blockedHours
theorem dX7_taken_0 : decode cX7_taken 0 = .ok (.iload_n 1, 1) := by decide +kernel
theorem dX7_taken_1 : decode cX7_taken 1 = .ok (.ifCond .lt 17, 3) := by decide +kernel
theorem dX7_taken_4 : decode cX7_taken 4 = .ok (.iload_n 1, 1) := by decide +kernel
theorem dX7_taken_5 : decode cX7_taken 5 = .ok (.sipush 364, 3) := by decide +kernel
theorem dX7_taken_8 : decode cX7_taken 8 = .ok (.if_icmp .gt 10, 3) := by decide +kernel
theorem dX7_taken_11 : decode cX7_taken 11 = .ok (.iload_n 2, 1) := by decide +kernel
theorem dX7_taken_12 : decode cX7_taken 12 = .ok (.invokestatic 106, 3) := by decide +kernel
theorem dX7_taken_15 : decode cX7_taken 15 = .ok (.ifCond .ne 6, 3) := by decide +kernel
theorem dX7_taken_18 : decode cX7_taken 18 = .ok (.ldc 60, 2) := by decide +kernel
theorem dX7_taken_20 : decode cX7_taken 20 = .ok (.ireturn, 1) := by decide +kernel
theorem dX7_taken_21 : decode cX7_taken 21 = .ok (.aload_n 0, 1) := by decide +kernel
theorem dX7_taken_22 : decode cX7_taken 22 = .ok (.getfield 10, 3) := by decide +kernel
theorem dX7_taken_25 : decode cX7_taken 25 = .ok (.iload_n 1, 1) := by decide +kernel
theorem dX7_taken_26 : decode cX7_taken 26 = .ok (.iload_n 2, 1) := by decide +kernel
theorem dX7_taken_27 : decode cX7_taken 27 = .ok (.iconst (-1), 1) := by decide +kernel
theorem dX7_taken_28 : decode cX7_taken 28 = .ok (.iconst 0, 1) := by decide +kernel
theorem dX7_taken_29 : decode cX7_taken 29 = .ok (.invokevirtual 167, 3) := by decide +kernel
theorem dX7_taken_32 : decode cX7_taken 32 = .ok (.ireturn, 1) := by decide +kernel
set_option maxRecDepth 20000 in
theorem ggX7_firstFree_X0_isHirer : GoodIn wsX7_firstFree wsX0_isHirer := goodIn_r _ [14, 15, 54, 55, 56, 57, 58, 59, 60, 61, 62] (by decide +kernel) (by decide +kernel)
set_option maxRecDepth 20000 in
theorem gX7_firstFree_X0_isHirer : GoodIn wsX7_firstFree (wsV RX7 56 RX0 yX0_isHirer wsX0_isHirer) := goodIn_app (goodIn_of _ (by decide +kernel)) ggX7_firstFree_X0_isHirer
set_option maxRecDepth 20000 in
theorem ggX7_firstFree_X7_areRooms : GoodIn wsX7_firstFree wsX7_areRooms := goodIn_r _ [19] (by decide +kernel) (by decide +kernel)
set_option maxRecDepth 20000 in
theorem gX7_firstFree_X7_areRooms : GoodIn wsX7_firstFree (va_wsS RX7 106 yX7_areRooms wsX7_areRooms) := goodIn_app (goodIn_of _ (by decide +kernel)) ggX7_firstFree_X7_areRooms
set_option maxRecDepth 20000 in
theorem ggX7_firstFree_X0_blockedHours : GoodIn wsX7_firstFree wsX0_blockedHours := goodIn_r _ [23, 24, 25, 26, 27, 28, 29, 30, 31, 32, 33, 34, 35, 36, 37, 38, 39, 40, 41, 42, 18, 43, 4, 5, 6, 7, 44, 45, 46, 54, 55, 56, 57, 58, 59, 60, 61, 62, 63, 64, 65, 66, 67, 68, 69, 70, 71, 72, 73, 74, 75, 76, 77] (by decide +kernel) (by decide +kernel)
set_option maxRecDepth 20000 in
theorem gX7_firstFree_X0_blockedHours : GoodIn wsX7_firstFree (wsV RX7 167 RX0 yX0_blockedHours wsX0_blockedHours) := goodIn_app (goodIn_of _ (by decide +kernel)) ggX7_firstFree_X0_blockedHours
set_option maxRecDepth 20000 in
theorem ggX7_firstFree_X7_hoursMask : GoodIn wsX7_firstFree wsX7_hoursMask := goodIn_r _ [43, 4, 5, 6, 7, 44, 45, 46] (by decide +kernel) (by decide +kernel)
set_option maxRecDepth 20000 in
theorem gX7_firstFree_X7_hoursMask : GoodIn wsX7_firstFree (va_wsS RX7 176 yX7_hoursMask wsX7_hoursMask) := goodIn_app (goodIn_of _ (by decide +kernel)) ggX7_firstFree_X7_hoursMask
theorem dX7_firstFree_0 : decode cX7_firstFree 0 = .ok (.aload_n 0, 1) := by decide +kernel
theorem dX7_firstFree_1 : decode cX7_firstFree 1 = .ok (.getfield 10, 3) := by decide +kernel
theorem dX7_firstFree_4 : decode cX7_firstFree 4 = .ok (.iload_n 1, 1) := by decide +kernel
theorem dX7_firstFree_5 : decode cX7_firstFree 5 = .ok (.invokevirtual 56, 3) := by decide +kernel
theorem dX7_firstFree_8 : decode cX7_firstFree 8 = .ok (.ifCond .eq 34, 3) := by decide +kernel
theorem dX7_firstFree_11 : decode cX7_firstFree 11 = .ok (.iload_n 2, 1) := by decide +kernel
theorem dX7_firstFree_12 : decode cX7_firstFree 12 = .ok (.invokestatic 106, 3) := by decide +kernel
theorem dX7_firstFree_15 : decode cX7_firstFree 15 = .ok (.ifCond .eq 27, 3) := by decide +kernel
theorem dX7_firstFree_18 : decode cX7_firstFree 18 = .ok (.iload_n 3, 1) := by decide +kernel
theorem dX7_firstFree_19 : decode cX7_firstFree 19 = .ok (.ifCond .lt 23, 3) := by decide +kernel
theorem dX7_firstFree_22 : decode cX7_firstFree 22 = .ok (.iload_n 3, 1) := by decide +kernel
theorem dX7_firstFree_23 : decode cX7_firstFree 23 = .ok (.sipush 364, 3) := by decide +kernel
theorem dX7_firstFree_26 : decode cX7_firstFree 26 = .ok (.if_icmp .gt 16, 3) := by decide +kernel
theorem dX7_firstFree_29 : decode cX7_firstFree 29 = .ok (.iload 4, 2) := by decide +kernel
theorem dX7_firstFree_31 : decode cX7_firstFree 31 = .ok (.iconst 1, 1) := by decide +kernel
theorem dX7_firstFree_32 : decode cX7_firstFree 32 = .ok (.if_icmp .lt 10, 3) := by decide +kernel
theorem dX7_firstFree_35 : decode cX7_firstFree 35 = .ok (.iload 4, 2) := by decide +kernel
theorem dX7_firstFree_37 : decode cX7_firstFree 37 = .ok (.bipush 15, 2) := by decide +kernel
theorem dX7_firstFree_39 : decode cX7_firstFree 39 = .ok (.if_icmp .le 6, 3) := by decide +kernel
theorem dX7_firstFree_42 : decode cX7_firstFree 42 = .ok (.ldc 60, 2) := by decide +kernel
theorem dX7_firstFree_44 : decode cX7_firstFree 44 = .ok (.ireturn, 1) := by decide +kernel
theorem dX7_firstFree_45 : decode cX7_firstFree 45 = .ok (.iload_n 3, 1) := by decide +kernel
theorem dX7_firstFree_46 : decode cX7_firstFree 46 = .ok (.aload_n 0, 1) := by decide +kernel
theorem dX7_firstFree_47 : decode cX7_firstFree 47 = .ok (.getfield 10, 3) := by decide +kernel
theorem dX7_firstFree_50 : decode cX7_firstFree 50 = .ok (.getfield 109, 3) := by decide +kernel
theorem dX7_firstFree_53 : decode cX7_firstFree 53 = .ok (.invokestatic 171, 3) := by decide +kernel
theorem dX7_firstFree_56 : decode cX7_firstFree 56 = .ok (.istore 5, 2) := by decide +kernel
theorem dX7_firstFree_58 : decode cX7_firstFree 58 = .ok (.iload 5, 2) := by decide +kernel
theorem dX7_firstFree_60 : decode cX7_firstFree 60 = .ok (.sipush 364, 3) := by decide +kernel
theorem dX7_firstFree_63 : decode cX7_firstFree 63 = .ok (.if_icmp .gt 76, 3) := by decide +kernel
theorem dX7_firstFree_66 : decode cX7_firstFree 66 = .ok (.aload_n 0, 1) := by decide +kernel
theorem dX7_firstFree_67 : decode cX7_firstFree 67 = .ok (.getfield 10, 3) := by decide +kernel
theorem dX7_firstFree_70 : decode cX7_firstFree 70 = .ok (.iload 5, 2) := by decide +kernel
theorem dX7_firstFree_72 : decode cX7_firstFree 72 = .ok (.iload_n 2, 1) := by decide +kernel
theorem dX7_firstFree_73 : decode cX7_firstFree 73 = .ok (.iload_n 1, 1) := by decide +kernel
theorem dX7_firstFree_74 : decode cX7_firstFree 74 = .ok (.aload_n 0, 1) := by decide +kernel
theorem dX7_firstFree_75 : decode cX7_firstFree 75 = .ok (.getfield 10, 3) := by decide +kernel
theorem dX7_firstFree_78 : decode cX7_firstFree 78 = .ok (.getfield 90, 3) := by decide +kernel
theorem dX7_firstFree_81 : decode cX7_firstFree 81 = .ok (.iconst 4, 1) := by decide +kernel
theorem dX7_firstFree_82 : decode cX7_firstFree 82 = .ok (.iaload, 1) := by decide +kernel
theorem dX7_firstFree_83 : decode cX7_firstFree 83 = .ok (.invokevirtual 167, 3) := by decide +kernel
theorem dX7_firstFree_86 : decode cX7_firstFree 86 = .ok (.istore 6, 2) := by decide +kernel
theorem dX7_firstFree_88 : decode cX7_firstFree 88 = .ok (.bipush 8, 2) := by decide +kernel
theorem dX7_firstFree_90 : decode cX7_firstFree 90 = .ok (.istore 7, 2) := by decide +kernel
theorem dX7_firstFree_92 : decode cX7_firstFree 92 = .ok (.iload 7, 2) := by decide +kernel
theorem dX7_firstFree_94 : decode cX7_firstFree 94 = .ok (.iload 4, 2) := by decide +kernel
theorem dX7_firstFree_96 : decode cX7_firstFree 96 = .ok (.iadd, 1) := by decide +kernel
theorem dX7_firstFree_97 : decode cX7_firstFree 97 = .ok (.bipush 23, 2) := by decide +kernel
theorem dX7_firstFree_99 : decode cX7_firstFree 99 = .ok (.if_icmp .gt 34, 3) := by decide +kernel
theorem dX7_firstFree_102 : decode cX7_firstFree 102 = .ok (.iload 6, 2) := by decide +kernel
theorem dX7_firstFree_104 : decode cX7_firstFree 104 = .ok (.iload 7, 2) := by decide +kernel
theorem dX7_firstFree_106 : decode cX7_firstFree 106 = .ok (.iload 7, 2) := by decide +kernel
theorem dX7_firstFree_108 : decode cX7_firstFree 108 = .ok (.iload 4, 2) := by decide +kernel
theorem dX7_firstFree_110 : decode cX7_firstFree 110 = .ok (.iadd, 1) := by decide +kernel
theorem dX7_firstFree_111 : decode cX7_firstFree 111 = .ok (.invokestatic 176, 3) := by decide +kernel
theorem dX7_firstFree_114 : decode cX7_firstFree 114 = .ok (.iand, 1) := by decide +kernel
theorem dX7_firstFree_115 : decode cX7_firstFree 115 = .ok (.ifCond .ne 12, 3) := by decide +kernel
theorem dX7_firstFree_118 : decode cX7_firstFree 118 = .ok (.bipush 100, 2) := by decide +kernel
theorem dX7_firstFree_120 : decode cX7_firstFree 120 = .ok (.iload 5, 2) := by decide +kernel
theorem dX7_firstFree_122 : decode cX7_firstFree 122 = .ok (.imul, 1) := by decide +kernel
theorem dX7_firstFree_123 : decode cX7_firstFree 123 = .ok (.iload 7, 2) := by decide +kernel
theorem dX7_firstFree_125 : decode cX7_firstFree 125 = .ok (.iadd, 1) := by decide +kernel
theorem dX7_firstFree_126 : decode cX7_firstFree 126 = .ok (.ireturn, 1) := by decide +kernel
theorem dX7_firstFree_127 : decode cX7_firstFree 127 = .ok (.iinc 7 1, 3) := by decide +kernel
theorem dX7_firstFree_130 : decode cX7_firstFree 130 = .ok (.goto (-38), 3) := by decide +kernel
theorem dX7_firstFree_133 : decode cX7_firstFree 133 = .ok (.iinc 5 1, 3) := by decide +kernel
theorem dX7_firstFree_136 : decode cX7_firstFree 136 = .ok (.goto (-78), 3) := by decide +kernel
theorem dX7_firstFree_139 : decode cX7_firstFree 139 = .ok (.ldc 131, 2) := by decide +kernel
theorem dX7_firstFree_141 : decode cX7_firstFree 141 = .ok (.ireturn, 1) := by decide +kernel
set_option maxRecDepth 20000 in
theorem ggX7_inOrder_X0_sessionsOn : GoodIn wsX7_inOrder wsX0_sessionsOn := goodIn_r _ [8, 9, 10, 11, 12, 13, 14, 15, 16, 17, 18, 19, 20, 21, 22, 50, 51, 52, 53, 54, 55, 56, 57, 58, 59, 60, 61, 62, 63, 64, 65, 66, 67, 68, 69, 70, 71, 72, 73] (by decide +kernel) (by decide +kernel)
set_option maxRecDepth 20000 in
theorem gX7_inOrder_X0_sessionsOn : GoodIn wsX7_inOrder (wsV RX7 179 RX0 yX0_sessionsOn wsX0_sessionsOn) := goodIn_app (goodIn_of _ (by decide +kernel)) ggX7_inOrder_X0_sessionsOn
set_option maxRecDepth 20000 in
theorem ggX7_inOrder_X0_sessionInOrder : GoodIn wsX7_inOrder wsX0_sessionInOrder := goodIn_r _ [26, 9, 27, 10, 11, 12, 13, 14, 15, 16, 17, 18, 19, 20, 21, 22, 28, 29, 30, 7, 31, 32, 33, 34, 35, 36, 37, 38, 39, 40, 41, 42, 43, 50, 51, 52, 53, 54, 55, 56, 57, 58, 59, 60, 61, 62, 63, 64, 65, 66, 67, 68, 69, 70, 71, 72, 73] (by decide +kernel) (by decide +kernel)
set_option maxRecDepth 20000 in
theorem gX7_inOrder_X0_sessionInOrder : GoodIn wsX7_inOrder (wsV RX7 182 RX0 yX0_sessionInOrder wsX0_sessionInOrder) := goodIn_app (goodIn_of _ (by decide +kernel)) ggX7_inOrder_X0_sessionInOrder
theorem dX7_inOrder_0 : decode cX7_inOrder 0 = .ok (.iload_n 1, 1) := by decide +kernel
theorem dX7_inOrder_1 : decode cX7_inOrder 1 = .ok (.ifCond .ge 6, 3) := by decide +kernel
theorem dX7_inOrder_4 : decode cX7_inOrder 4 = .ok (.ldc 60, 2) := by decide +kernel
theorem dX7_inOrder_6 : decode cX7_inOrder 6 = .ok (.ireturn, 1) := by decide +kernel
theorem dX7_inOrder_7 : decode cX7_inOrder 7 = .ok (.iload_n 1, 1) := by decide +kernel
theorem dX7_inOrder_8 : decode cX7_inOrder 8 = .ok (.istore_n 2, 1) := by decide +kernel
theorem dX7_inOrder_9 : decode cX7_inOrder 9 = .ok (.iconst 0, 1) := by decide +kernel
theorem dX7_inOrder_10 : decode cX7_inOrder 10 = .ok (.istore_n 3, 1) := by decide +kernel
theorem dX7_inOrder_11 : decode cX7_inOrder 11 = .ok (.iload_n 3, 1) := by decide +kernel
theorem dX7_inOrder_12 : decode cX7_inOrder 12 = .ok (.sipush 364, 3) := by decide +kernel
theorem dX7_inOrder_15 : decode cX7_inOrder 15 = .ok (.if_icmp .gt 40, 3) := by decide +kernel
theorem dX7_inOrder_18 : decode cX7_inOrder 18 = .ok (.aload_n 0, 1) := by decide +kernel
theorem dX7_inOrder_19 : decode cX7_inOrder 19 = .ok (.getfield 10, 3) := by decide +kernel
theorem dX7_inOrder_22 : decode cX7_inOrder 22 = .ok (.iload_n 3, 1) := by decide +kernel
theorem dX7_inOrder_23 : decode cX7_inOrder 23 = .ok (.invokevirtual 179, 3) := by decide +kernel
theorem dX7_inOrder_26 : decode cX7_inOrder 26 = .ok (.istore 4, 2) := by decide +kernel
theorem dX7_inOrder_28 : decode cX7_inOrder 28 = .ok (.iload_n 2, 1) := by decide +kernel
theorem dX7_inOrder_29 : decode cX7_inOrder 29 = .ok (.iload 4, 2) := by decide +kernel
theorem dX7_inOrder_31 : decode cX7_inOrder 31 = .ok (.if_icmp .ge 13, 3) := by decide +kernel
theorem dX7_inOrder_34 : decode cX7_inOrder 34 = .ok (.aload_n 0, 1) := by decide +kernel
theorem dX7_inOrder_35 : decode cX7_inOrder 35 = .ok (.getfield 10, 3) := by decide +kernel
theorem dX7_inOrder_38 : decode cX7_inOrder 38 = .ok (.iload_n 3, 1) := by decide +kernel
theorem dX7_inOrder_39 : decode cX7_inOrder 39 = .ok (.iload_n 2, 1) := by decide +kernel
theorem dX7_inOrder_40 : decode cX7_inOrder 40 = .ok (.invokevirtual 182, 3) := by decide +kernel
theorem dX7_inOrder_43 : decode cX7_inOrder 43 = .ok (.ireturn, 1) := by decide +kernel
theorem dX7_inOrder_44 : decode cX7_inOrder 44 = .ok (.iload_n 2, 1) := by decide +kernel
theorem dX7_inOrder_45 : decode cX7_inOrder 45 = .ok (.iload 4, 2) := by decide +kernel
theorem dX7_inOrder_47 : decode cX7_inOrder 47 = .ok (.isub, 1) := by decide +kernel
theorem dX7_inOrder_48 : decode cX7_inOrder 48 = .ok (.istore_n 2, 1) := by decide +kernel
theorem dX7_inOrder_49 : decode cX7_inOrder 49 = .ok (.iinc 3 1, 3) := by decide +kernel
theorem dX7_inOrder_52 : decode cX7_inOrder 52 = .ok (.goto (-41), 3) := by decide +kernel
theorem dX7_inOrder_55 : decode cX7_inOrder 55 = .ok (.ldc 131, 2) := by decide +kernel
theorem dX7_inOrder_57 : decode cX7_inOrder 57 = .ok (.ireturn, 1) := by decide +kernel
set_option maxRecDepth 20000 in
theorem ggX7_pass_X2_save : GoodIn wsX7_pass wsX2_save := goodIn_r _ [10, 11, 12, 13, 14, 15, 9, 16, 17, 18, 19, 20, 21, 22, 23, 24, 25, 26, 27, 28, 29, 30, 31, 32, 33, 34, 35, 36, 37, 38, 39, 40, 41, 42, 43, 44, 45, 46, 47, 48, 49, 50, 51, 52, 53, 54, 55, 56, 57, 58, 59, 60, 61, 120, 121, 111, 112, 113, 114, 115, 116, 117, 118, 119, 122, 123, 124, 125, 126, 127, 128, 129, 130, 131, 132, 133, 134, 135, 136, 137, 138, 139] (by decide +kernel) (by decide +kernel)
set_option maxRecDepth 20000 in
theorem gX7_pass_X2_save : GoodIn wsX7_pass (wsV RX7 52 RX2 yX2_save wsX2_save) := goodIn_app (goodIn_of _ (by decide +kernel)) ggX7_pass_X2_save
set_option maxRecDepth 20000 in
theorem ggX7_pass_X0_passDay : GoodIn wsX7_pass wsX0_passDay := goodIn_r _ [65, 33, 22, 66, 67, 68, 69, 38, 70, 45, 46, 44, 49, 71, 72, 73, 20, 74, 34, 75, 25, 76, 77, 78, 79, 24, 80, 81, 82, 58, 83, 60, 61, 84, 85, 86, 87, 88, 89, 90, 91, 92, 93, 94, 95, 30, 96, 97, 98, 99, 100, 31, 101, 102, 103, 104, 23, 111, 112, 113, 114, 115, 116, 117, 118, 119, 122, 123, 124, 125, 126, 127, 128, 129, 130, 131, 132, 133, 134, 135, 136, 137, 138, 139] (by decide +kernel) (by decide +kernel)
set_option maxRecDepth 20000 in
theorem gX7_pass_X0_passDay : GoodIn wsX7_pass (wsV RX7 185 RX0 yX0_passDay wsX0_passDay) := goodIn_app (goodIn_of _ (by decide +kernel)) ggX7_pass_X0_passDay
theorem dX7_pass_0 : decode cX7_pass 0 = .ok (.iload_n 1, 1) := by decide +kernel
theorem dX7_pass_1 : decode cX7_pass 1 = .ok (.iconst 1, 1) := by decide +kernel
theorem dX7_pass_2 : decode cX7_pass 2 = .ok (.if_icmp .lt 9, 3) := by decide +kernel
theorem dX7_pass_5 : decode cX7_pass 5 = .ok (.iload_n 1, 1) := by decide +kernel
theorem dX7_pass_6 : decode cX7_pass 6 = .ok (.bipush 60, 2) := by decide +kernel
theorem dX7_pass_8 : decode cX7_pass 8 = .ok (.if_icmp .le 6, 3) := by decide +kernel
theorem dX7_pass_11 : decode cX7_pass 11 = .ok (.ldc 60, 2) := by decide +kernel
theorem dX7_pass_13 : decode cX7_pass 13 = .ok (.ireturn, 1) := by decide +kernel
theorem dX7_pass_14 : decode cX7_pass 14 = .ok (.aload_n 0, 1) := by decide +kernel
theorem dX7_pass_15 : decode cX7_pass 15 = .ok (.getfield 10, 3) := by decide +kernel
theorem dX7_pass_18 : decode cX7_pass 18 = .ok (.getfield 109, 3) := by decide +kernel
theorem dX7_pass_21 : decode cX7_pass 21 = .ok (.iload_n 1, 1) := by decide +kernel
theorem dX7_pass_22 : decode cX7_pass 22 = .ok (.iadd, 1) := by decide +kernel
theorem dX7_pass_23 : decode cX7_pass 23 = .ok (.sipush 400, 3) := by decide +kernel
theorem dX7_pass_26 : decode cX7_pass 26 = .ok (.if_icmp .le 6, 3) := by decide +kernel
theorem dX7_pass_29 : decode cX7_pass 29 = .ok (.ldc 51, 2) := by decide +kernel
theorem dX7_pass_31 : decode cX7_pass 31 = .ok (.ireturn, 1) := by decide +kernel
theorem dX7_pass_32 : decode cX7_pass 32 = .ok (.aload_n 0, 1) := by decide +kernel
theorem dX7_pass_33 : decode cX7_pass 33 = .ok (.getfield 19, 3) := by decide +kernel
theorem dX7_pass_36 : decode cX7_pass 36 = .ok (.aload_n 0, 1) := by decide +kernel
theorem dX7_pass_37 : decode cX7_pass 37 = .ok (.getfield 10, 3) := by decide +kernel
theorem dX7_pass_40 : decode cX7_pass 40 = .ok (.invokevirtual 52, 3) := by decide +kernel
theorem dX7_pass_43 : decode cX7_pass 43 = .ok (.iconst 0, 1) := by decide +kernel
theorem dX7_pass_44 : decode cX7_pass 44 = .ok (.istore_n 2, 1) := by decide +kernel
theorem dX7_pass_45 : decode cX7_pass 45 = .ok (.iconst 0, 1) := by decide +kernel
theorem dX7_pass_46 : decode cX7_pass 46 = .ok (.istore_n 3, 1) := by decide +kernel
theorem dX7_pass_47 : decode cX7_pass 47 = .ok (.iload_n 3, 1) := by decide +kernel
theorem dX7_pass_48 : decode cX7_pass 48 = .ok (.iload_n 1, 1) := by decide +kernel
theorem dX7_pass_49 : decode cX7_pass 49 = .ok (.if_icmp .ge 19, 3) := by decide +kernel
theorem dX7_pass_52 : decode cX7_pass 52 = .ok (.iload_n 2, 1) := by decide +kernel
theorem dX7_pass_53 : decode cX7_pass 53 = .ok (.aload_n 0, 1) := by decide +kernel
theorem dX7_pass_54 : decode cX7_pass 54 = .ok (.getfield 10, 3) := by decide +kernel
theorem dX7_pass_57 : decode cX7_pass 57 = .ok (.invokevirtual 185, 3) := by decide +kernel
theorem dX7_pass_60 : decode cX7_pass 60 = .ok (.iadd, 1) := by decide +kernel
theorem dX7_pass_61 : decode cX7_pass 61 = .ok (.istore_n 2, 1) := by decide +kernel
theorem dX7_pass_62 : decode cX7_pass 62 = .ok (.iinc 3 1, 3) := by decide +kernel
theorem dX7_pass_65 : decode cX7_pass 65 = .ok (.goto (-18), 3) := by decide +kernel
theorem dX7_pass_68 : decode cX7_pass 68 = .ok (.iload_n 2, 1) := by decide +kernel
theorem dX7_pass_69 : decode cX7_pass 69 = .ok (.ireturn, 1) := by decide +kernel
set_option maxRecDepth 20000 in
theorem ggX7_count_X0_sessionsNotCancelled : GoodIn wsX7_count wsX0_sessionsNotCancelled := goodIn_r _ [13, 14, 15, 16, 17, 18, 19, 20, 21, 22, 23, 74, 75, 76, 77, 78, 79, 80, 81, 82, 88, 89, 90, 91, 92, 93, 94, 95, 96, 97, 98, 99, 100, 101, 102] (by decide +kernel) (by decide +kernel)
set_option maxRecDepth 20000 in
theorem gX7_count_X0_sessionsNotCancelled : GoodIn wsX7_count (wsV RX7 191 RX0 yX0_sessionsNotCancelled wsX0_sessionsNotCancelled) := goodIn_app (goodIn_of _ (by decide +kernel)) ggX7_count_X0_sessionsNotCancelled
set_option maxRecDepth 20000 in
theorem ggX7_count_X0_keysFor : GoodIn wsX7_count wsX0_keysFor := goodIn_r _ [27, 28, 29, 74, 75, 76, 77, 78, 79, 80, 81, 82, 103, 104, 105] (by decide +kernel) (by decide +kernel)
set_option maxRecDepth 20000 in
theorem gX7_count_X0_keysFor : GoodIn wsX7_count (wsV RX7 136 RX0 yX0_keysFor wsX0_keysFor) := goodIn_app (goodIn_of _ (by decide +kernel)) ggX7_count_X0_keysFor
set_option maxRecDepth 20000 in
theorem ggX7_count_X0_lateKeys : GoodIn wsX7_count wsX0_lateKeys := goodIn_r _ [33, 28, 34, 35, 36, 37, 38, 39, 40, 41, 42, 43, 44, 45, 74, 75, 76, 77, 78, 79, 80, 81, 82, 103, 104, 105] (by decide +kernel) (by decide +kernel)
set_option maxRecDepth 20000 in
theorem gX7_count_X0_lateKeys : GoodIn wsX7_count (wsV RX7 194 RX0 yX0_lateKeys wsX0_lateKeys) := goodIn_app (goodIn_of _ (by decide +kernel)) ggX7_count_X0_lateKeys
set_option maxRecDepth 20000 in
theorem ggX7_count_X0_roomHoursHeld : GoodIn wsX7_count wsX0_roomHoursHeld := goodIn_r _ [49, 14, 50, 51, 52, 53, 54, 55, 56, 57, 58, 59, 18, 19, 20, 21, 22, 23, 74, 75, 76, 77, 78, 79, 80, 81, 82, 88, 89, 90, 91, 92, 93, 94, 95, 96, 97, 98, 99, 100, 101, 102] (by decide +kernel) (by decide +kernel)
set_option maxRecDepth 20000 in
theorem gX7_count_X0_roomHoursHeld : GoodIn wsX7_count (wsV RX7 197 RX0 yX0_roomHoursHeld wsX0_roomHoursHeld) := goodIn_app (goodIn_of _ (by decide +kernel)) ggX7_count_X0_roomHoursHeld
set_option maxRecDepth 20000 in
theorem ggX7_count_X7_settingOrAccount : GoodIn wsX7_count wsX7_settingOrAccount := goodIn_r _ [64, 1, 65, 66, 67, 68, 69, 70, 71, 72, 73, 74, 75, 76, 77, 78, 79, 80, 81, 82] (by decide +kernel) (by decide +kernel)
set_option maxRecDepth 20000 in
theorem gX7_count_X7_settingOrAccount : GoodIn wsX7_count (wsV RX7 206 RX7 yX7_settingOrAccount wsX7_settingOrAccount) := goodIn_app (goodIn_of _ (by decide +kernel)) ggX7_count_X7_settingOrAccount
theorem dX7_count_0 : decode cX7_count 0 = .ok (.iload_n 1, 1) := by decide +kernel
theorem dX7_count_1 : decode cX7_count 1 = .ok (.tableswitch 124 0 8 #[51, 59, 67, 75, 83, 92, 100, 108, 116], 51) := by decide +kernel
theorem dX7_count_52 : decode cX7_count 52 = .ok (.aload_n 0, 1) := by decide +kernel
theorem dX7_count_53 : decode cX7_count 53 = .ok (.getfield 10, 3) := by decide +kernel
theorem dX7_count_56 : decode cX7_count 56 = .ok (.getfield 109, 3) := by decide +kernel
theorem dX7_count_59 : decode cX7_count 59 = .ok (.ireturn, 1) := by decide +kernel
theorem dX7_count_60 : decode cX7_count 60 = .ok (.aload_n 0, 1) := by decide +kernel
theorem dX7_count_61 : decode cX7_count 61 = .ok (.getfield 10, 3) := by decide +kernel
theorem dX7_count_64 : decode cX7_count 64 = .ok (.getfield 48, 3) := by decide +kernel
