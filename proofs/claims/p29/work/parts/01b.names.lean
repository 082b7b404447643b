set_option maxRecDepth 20000 in
theorem ggX0_init_X1_init : GoodIn wsX0_init wsX1_init := goodIn_r _ [25, 26, 2, 3, 27, 28, 11, 29, 45, 46, 47, 48, 49, 50, 51, 52, 53, 54, 55, 56, 57, 58, 59] (by decide +kernel) (by decide +kernel)
set_option maxRecDepth 20000 in
theorem gX0_init_X1_init : GoodIn wsX0_init (wsX1_init) := ggX0_init_X1_init
set_option maxRecDepth 20000 in
theorem ggX0_init_X3_init : GoodIn wsX0_init wsX3_init := goodIn_r _ [32, 33, 2, 3, 34, 35, 60, 61, 62] (by decide +kernel) (by decide +kernel)
set_option maxRecDepth 20000 in
theorem gX0_init_X3_init : GoodIn wsX0_init (wsX3_init) := ggX0_init_X3_init
theorem dX0_init_0 : decode cX0_init 0 = .ok (.aload_n 0, 1) := by decide +kernel
theorem dX0_init_1 : decode cX0_init 1 = .ok (.invokespecial 3, 3) := by decide +kernel
theorem dX0_init_4 : decode cX0_init 4 = .ok (.aload_n 0, 1) := by decide +kernel
theorem dX0_init_5 : decode cX0_init 5 = .ok (.getstatic 9, 3) := by decide +kernel
theorem dX0_init_8 : decode cX0_init 8 = .ok (.invokevirtual 13, 3) := by decide +kernel
theorem dX0_init_11 : decode cX0_init 11 = .ok (.checkcast 14, 3) := by decide +kernel
theorem dX0_init_14 : decode cX0_init 14 = .ok (.putfield 18, 3) := by decide +kernel
theorem dX0_init_17 : decode cX0_init 17 = .ok (.aload_n 0, 1) := by decide +kernel
theorem dX0_init_18 : decode cX0_init 18 = .ok (.bipush 9, 2) := by decide +kernel
theorem dX0_init_20 : decode cX0_init 20 = .ok (.newarray .int, 2) := by decide +kernel
theorem dX0_init_22 : decode cX0_init 22 = .ok (.putfield 23, 3) := by decide +kernel
theorem dX0_init_25 : decode cX0_init 25 = .ok (.aload_n 0, 1) := by decide +kernel
theorem dX0_init_26 : decode cX0_init 26 = .ok (.bipush 10, 2) := by decide +kernel
theorem dX0_init_28 : decode cX0_init 28 = .ok (.newarray .int, 2) := by decide +kernel
theorem dX0_init_30 : decode cX0_init 30 = .ok (.putfield 26, 3) := by decide +kernel
theorem dX0_init_33 : decode cX0_init 33 = .ok (.aload_n 0, 1) := by decide +kernel
theorem dX0_init_34 : decode cX0_init 34 = .ok (.bipush 10, 2) := by decide +kernel
theorem dX0_init_36 : decode cX0_init 36 = .ok (.newarray .int, 2) := by decide +kernel
theorem dX0_init_38 : decode cX0_init 38 = .ok (.putfield 29, 3) := by decide +kernel
theorem dX0_init_41 : decode cX0_init 41 = .ok (.aload_n 0, 1) := by decide +kernel
theorem dX0_init_42 : decode cX0_init 42 = .ok (.bipush 12, 2) := by decide +kernel
theorem dX0_init_44 : decode cX0_init 44 = .ok (.anewarray 32, 3) := by decide +kernel
theorem dX0_init_47 : decode cX0_init 47 = .ok (.putfield 34, 3) := by decide +kernel
theorem dX0_init_50 : decode cX0_init 50 = .ok (.iconst 0, 1) := by decide +kernel
theorem dX0_init_51 : decode cX0_init 51 = .ok (.istore_n 1, 1) := by decide +kernel
theorem dX0_init_52 : decode cX0_init 52 = .ok (.iload_n 1, 1) := by decide +kernel
theorem dX0_init_53 : decode cX0_init 53 = .ok (.aload_n 0, 1) := by decide +kernel
theorem dX0_init_54 : decode cX0_init 54 = .ok (.getfield 34, 3) := by decide +kernel
theorem dX0_init_57 : decode cX0_init 57 = .ok (.arraylength, 1) := by decide +kernel
theorem dX0_init_58 : decode cX0_init 58 = .ok (.if_icmp .ge 23, 3) := by decide +kernel
theorem dX0_init_61 : decode cX0_init 61 = .ok (.aload_n 0, 1) := by decide +kernel
theorem dX0_init_62 : decode cX0_init 62 = .ok (.getfield 34, 3) := by decide +kernel
theorem dX0_init_65 : decode cX0_init 65 = .ok (.iload_n 1, 1) := by decide +kernel
theorem dX0_init_66 : decode cX0_init 66 = .ok (.new 32, 3) := by decide +kernel
theorem dX0_init_69 : decode cX0_init 69 = .ok (.dup, 1) := by decide +kernel
theorem dX0_init_70 : decode cX0_init 70 = .ok (.iload_n 1, 1) := by decide +kernel
theorem dX0_init_71 : decode cX0_init 71 = .ok (.invokespecial 38, 3) := by decide +kernel
theorem dX0_init_74 : decode cX0_init 74 = .ok (.aastore, 1) := by decide +kernel
theorem dX0_init_75 : decode cX0_init 75 = .ok (.iinc 1 1, 3) := by decide +kernel
theorem dX0_init_78 : decode cX0_init 78 = .ok (.goto (-26), 3) := by decide +kernel
theorem dX0_init_81 : decode cX0_init 81 = .ok (.aload_n 0, 1) := by decide +kernel
theorem dX0_init_82 : decode cX0_init 82 = .ok (.bipush 6, 2) := by decide +kernel
theorem dX0_init_84 : decode cX0_init 84 = .ok (.anewarray 41, 3) := by decide +kernel
theorem dX0_init_87 : decode cX0_init 87 = .ok (.putfield 43, 3) := by decide +kernel
theorem dX0_init_90 : decode cX0_init 90 = .ok (.iconst 0, 1) := by decide +kernel
theorem dX0_init_91 : decode cX0_init 91 = .ok (.istore_n 1, 1) := by decide +kernel
theorem dX0_init_92 : decode cX0_init 92 = .ok (.iload_n 1, 1) := by decide +kernel
theorem dX0_init_93 : decode cX0_init 93 = .ok (.aload_n 0, 1) := by decide +kernel
theorem dX0_init_94 : decode cX0_init 94 = .ok (.getfield 43, 3) := by decide +kernel
theorem dX0_init_97 : decode cX0_init 97 = .ok (.arraylength, 1) := by decide +kernel
theorem dX0_init_98 : decode cX0_init 98 = .ok (.if_icmp .ge 25, 3) := by decide +kernel
theorem dX0_init_101 : decode cX0_init 101 = .ok (.aload_n 0, 1) := by decide +kernel
theorem dX0_init_102 : decode cX0_init 102 = .ok (.getfield 43, 3) := by decide +kernel
theorem dX0_init_105 : decode cX0_init 105 = .ok (.iload_n 1, 1) := by decide +kernel
theorem dX0_init_106 : decode cX0_init 106 = .ok (.new 41, 3) := by decide +kernel
theorem dX0_init_109 : decode cX0_init 109 = .ok (.dup, 1) := by decide +kernel
theorem dX0_init_110 : decode cX0_init 110 = .ok (.iload_n 1, 1) := by decide +kernel
theorem dX0_init_111 : decode cX0_init 111 = .ok (.iconst 3, 1) := by decide +kernel
theorem dX0_init_112 : decode cX0_init 112 = .ok (.irem, 1) := by decide +kernel
theorem dX0_init_113 : decode cX0_init 113 = .ok (.invokespecial 47, 3) := by decide +kernel
theorem dX0_init_116 : decode cX0_init 116 = .ok (.aastore, 1) := by decide +kernel
theorem dX0_init_117 : decode cX0_init 117 = .ok (.iinc 1 1, 3) := by decide +kernel
theorem dX0_init_120 : decode cX0_init 120 = .ok (.goto (-28), 3) := by decide +kernel
theorem dX0_init_123 : decode cX0_init 123 = .ok (.return_, 1) := by decide +kernel
set_option maxRecDepth 20000 in
theorem ggX0_copyFrom_X1_copyFrom : GoodIn wsX0_copyFrom wsX1_copyFrom := goodIn_r _ [18, 19, 20, 21, 22, 23, 24, 25, 26, 27, 28, 29, 30, 31, 32, 33, 6, 7, 8, 50, 51, 52, 53, 54, 55, 56, 57, 58, 59, 60, 61, 62, 63, 64] (by decide +kernel) (by decide +kernel)
set_option maxRecDepth 20000 in
theorem gX0_copyFrom_X1_copyFrom : GoodIn wsX0_copyFrom (wsV RX0 64 RX1 yX1_copyFrom wsX1_copyFrom) := goodIn_app (goodIn_of _ (by decide +kernel)) ggX0_copyFrom_X1_copyFrom
set_option maxRecDepth 20000 in
theorem ggX0_copyFrom_X3_copyFrom : GoodIn wsX0_copyFrom wsX3_copyFrom := goodIn_r _ [38, 39, 40, 65, 66, 67] (by decide +kernel) (by decide +kernel)
set_option maxRecDepth 20000 in
theorem gX0_copyFrom_X3_copyFrom : GoodIn wsX0_copyFrom (wsV RX0 68 RX3 yX3_copyFrom wsX3_copyFrom) := goodIn_app (goodIn_of _ (by decide +kernel)) ggX0_copyFrom_X3_copyFrom
theorem dX0_copyFrom_0 : decode cX0_copyFrom 0 = .ok (.aload_n 0, 1) := by decide +kernel
theorem dX0_copyFrom_1 : decode cX0_copyFrom 1 = .ok (.aload_n 1, 1) := by decide +kernel
theorem dX0_copyFrom_2 : decode cX0_copyFrom 2 = .ok (.getfield 48, 3) := by decide +kernel
theorem dX0_copyFrom_5 : decode cX0_copyFrom 5 = .ok (.putfield 48, 3) := by decide +kernel
theorem dX0_copyFrom_8 : decode cX0_copyFrom 8 = .ok (.aload_n 0, 1) := by decide +kernel
theorem dX0_copyFrom_9 : decode cX0_copyFrom 9 = .ok (.aload_n 1, 1) := by decide +kernel
theorem dX0_copyFrom_10 : decode cX0_copyFrom 10 = .ok (.getfield 52, 3) := by decide +kernel
theorem dX0_copyFrom_13 : decode cX0_copyFrom 13 = .ok (.putfield 52, 3) := by decide +kernel
theorem dX0_copyFrom_16 : decode cX0_copyFrom 16 = .ok (.aload_n 0, 1) := by decide +kernel
theorem dX0_copyFrom_17 : decode cX0_copyFrom 17 = .ok (.aload_n 1, 1) := by decide +kernel
theorem dX0_copyFrom_18 : decode cX0_copyFrom 18 = .ok (.getfield 55, 3) := by decide +kernel
theorem dX0_copyFrom_21 : decode cX0_copyFrom 21 = .ok (.putfield 55, 3) := by decide +kernel
theorem dX0_copyFrom_24 : decode cX0_copyFrom 24 = .ok (.aload_n 1, 1) := by decide +kernel
theorem dX0_copyFrom_25 : decode cX0_copyFrom 25 = .ok (.getfield 18, 3) := by decide +kernel
theorem dX0_copyFrom_28 : decode cX0_copyFrom 28 = .ok (.iconst 0, 1) := by decide +kernel
theorem dX0_copyFrom_29 : decode cX0_copyFrom 29 = .ok (.aload_n 0, 1) := by decide +kernel
theorem dX0_copyFrom_30 : decode cX0_copyFrom 30 = .ok (.getfield 18, 3) := by decide +kernel
theorem dX0_copyFrom_33 : decode cX0_copyFrom 33 = .ok (.iconst 0, 1) := by decide +kernel
theorem dX0_copyFrom_34 : decode cX0_copyFrom 34 = .ok (.aload_n 0, 1) := by decide +kernel
theorem dX0_copyFrom_35 : decode cX0_copyFrom 35 = .ok (.getfield 18, 3) := by decide +kernel
theorem dX0_copyFrom_38 : decode cX0_copyFrom 38 = .ok (.arraylength, 1) := by decide +kernel
theorem dX0_copyFrom_39 : decode cX0_copyFrom 39 = .ok (.invokestatic 58, 3) := by decide +kernel
theorem dX0_copyFrom_42 : decode cX0_copyFrom 42 = .ok (.aload_n 1, 1) := by decide +kernel
theorem dX0_copyFrom_43 : decode cX0_copyFrom 43 = .ok (.getfield 23, 3) := by decide +kernel
theorem dX0_copyFrom_46 : decode cX0_copyFrom 46 = .ok (.iconst 0, 1) := by decide +kernel
theorem dX0_copyFrom_47 : decode cX0_copyFrom 47 = .ok (.aload_n 0, 1) := by decide +kernel
theorem dX0_copyFrom_48 : decode cX0_copyFrom 48 = .ok (.getfield 23, 3) := by decide +kernel
theorem dX0_copyFrom_51 : decode cX0_copyFrom 51 = .ok (.iconst 0, 1) := by decide +kernel
theorem dX0_copyFrom_52 : decode cX0_copyFrom 52 = .ok (.aload_n 0, 1) := by decide +kernel
theorem dX0_copyFrom_53 : decode cX0_copyFrom 53 = .ok (.getfield 23, 3) := by decide +kernel
theorem dX0_copyFrom_56 : decode cX0_copyFrom 56 = .ok (.arraylength, 1) := by decide +kernel
theorem dX0_copyFrom_57 : decode cX0_copyFrom 57 = .ok (.invokestatic 58, 3) := by decide +kernel
theorem dX0_copyFrom_60 : decode cX0_copyFrom 60 = .ok (.aload_n 1, 1) := by decide +kernel
theorem dX0_copyFrom_61 : decode cX0_copyFrom 61 = .ok (.getfield 26, 3) := by decide +kernel
theorem dX0_copyFrom_64 : decode cX0_copyFrom 64 = .ok (.iconst 0, 1) := by decide +kernel
theorem dX0_copyFrom_65 : decode cX0_copyFrom 65 = .ok (.aload_n 0, 1) := by decide +kernel
theorem dX0_copyFrom_66 : decode cX0_copyFrom 66 = .ok (.getfield 26, 3) := by decide +kernel
theorem dX0_copyFrom_69 : decode cX0_copyFrom 69 = .ok (.iconst 0, 1) := by decide +kernel
theorem dX0_copyFrom_70 : decode cX0_copyFrom 70 = .ok (.aload_n 0, 1) := by decide +kernel
theorem dX0_copyFrom_71 : decode cX0_copyFrom 71 = .ok (.getfield 26, 3) := by decide +kernel
theorem dX0_copyFrom_74 : decode cX0_copyFrom 74 = .ok (.arraylength, 1) := by decide +kernel
theorem dX0_copyFrom_75 : decode cX0_copyFrom 75 = .ok (.invokestatic 58, 3) := by decide +kernel
theorem dX0_copyFrom_78 : decode cX0_copyFrom 78 = .ok (.aload_n 1, 1) := by decide +kernel
theorem dX0_copyFrom_79 : decode cX0_copyFrom 79 = .ok (.getfield 29, 3) := by decide +kernel
theorem dX0_copyFrom_82 : decode cX0_copyFrom 82 = .ok (.iconst 0, 1) := by decide +kernel
theorem dX0_copyFrom_83 : decode cX0_copyFrom 83 = .ok (.aload_n 0, 1) := by decide +kernel
theorem dX0_copyFrom_84 : decode cX0_copyFrom 84 = .ok (.getfield 29, 3) := by decide +kernel
theorem dX0_copyFrom_87 : decode cX0_copyFrom 87 = .ok (.iconst 0, 1) := by decide +kernel
theorem dX0_copyFrom_88 : decode cX0_copyFrom 88 = .ok (.aload_n 0, 1) := by decide +kernel
theorem dX0_copyFrom_89 : decode cX0_copyFrom 89 = .ok (.getfield 29, 3) := by decide +kernel
theorem dX0_copyFrom_92 : decode cX0_copyFrom 92 = .ok (.arraylength, 1) := by decide +kernel
theorem dX0_copyFrom_93 : decode cX0_copyFrom 93 = .ok (.invokestatic 58, 3) := by decide +kernel
theorem dX0_copyFrom_96 : decode cX0_copyFrom 96 = .ok (.iconst 0, 1) := by decide +kernel
theorem dX0_copyFrom_97 : decode cX0_copyFrom 97 = .ok (.istore_n 2, 1) := by decide +kernel
theorem dX0_copyFrom_98 : decode cX0_copyFrom 98 = .ok (.iload_n 2, 1) := by decide +kernel
theorem dX0_copyFrom_99 : decode cX0_copyFrom 99 = .ok (.aload_n 0, 1) := by decide +kernel
theorem dX0_copyFrom_100 : decode cX0_copyFrom 100 = .ok (.getfield 34, 3) := by decide +kernel
theorem dX0_copyFrom_103 : decode cX0_copyFrom 103 = .ok (.arraylength, 1) := by decide +kernel
theorem dX0_copyFrom_104 : decode cX0_copyFrom 104 = .ok (.if_icmp .ge 24, 3) := by decide +kernel
theorem dX0_copyFrom_107 : decode cX0_copyFrom 107 = .ok (.aload_n 0, 1) := by decide +kernel
theorem dX0_copyFrom_108 : decode cX0_copyFrom 108 = .ok (.getfield 34, 3) := by decide +kernel
theorem dX0_copyFrom_111 : decode cX0_copyFrom 111 = .ok (.iload_n 2, 1) := by decide +kernel
theorem dX0_copyFrom_112 : decode cX0_copyFrom 112 = .ok (.aaload, 1) := by decide +kernel
theorem dX0_copyFrom_113 : decode cX0_copyFrom 113 = .ok (.aload_n 1, 1) := by decide +kernel
theorem dX0_copyFrom_114 : decode cX0_copyFrom 114 = .ok (.getfield 34, 3) := by decide +kernel
theorem dX0_copyFrom_117 : decode cX0_copyFrom 117 = .ok (.iload_n 2, 1) := by decide +kernel
theorem dX0_copyFrom_118 : decode cX0_copyFrom 118 = .ok (.aaload, 1) := by decide +kernel
theorem dX0_copyFrom_119 : decode cX0_copyFrom 119 = .ok (.invokevirtual 64, 3) := by decide +kernel
theorem dX0_copyFrom_122 : decode cX0_copyFrom 122 = .ok (.iinc 2 1, 3) := by decide +kernel
theorem dX0_copyFrom_125 : decode cX0_copyFrom 125 = .ok (.goto (-27), 3) := by decide +kernel
theorem dX0_copyFrom_128 : decode cX0_copyFrom 128 = .ok (.iconst 0, 1) := by decide +kernel
theorem dX0_copyFrom_129 : decode cX0_copyFrom 129 = .ok (.istore_n 2, 1) := by decide +kernel
theorem dX0_copyFrom_130 : decode cX0_copyFrom 130 = .ok (.iload_n 2, 1) := by decide +kernel
theorem dX0_copyFrom_131 : decode cX0_copyFrom 131 = .ok (.aload_n 0, 1) := by decide +kernel
theorem dX0_copyFrom_132 : decode cX0_copyFrom 132 = .ok (.getfield 43, 3) := by decide +kernel
theorem dX0_copyFrom_135 : decode cX0_copyFrom 135 = .ok (.arraylength, 1) := by decide +kernel
theorem dX0_copyFrom_136 : decode cX0_copyFrom 136 = .ok (.if_icmp .ge 24, 3) := by decide +kernel
theorem dX0_copyFrom_139 : decode cX0_copyFrom 139 = .ok (.aload_n 0, 1) := by decide +kernel
theorem dX0_copyFrom_140 : decode cX0_copyFrom 140 = .ok (.getfield 43, 3) := by decide +kernel
theorem dX0_copyFrom_143 : decode cX0_copyFrom 143 = .ok (.iload_n 2, 1) := by decide +kernel
theorem dX0_copyFrom_144 : decode cX0_copyFrom 144 = .ok (.aaload, 1) := by decide +kernel
theorem dX0_copyFrom_145 : decode cX0_copyFrom 145 = .ok (.aload_n 1, 1) := by decide +kernel
theorem dX0_copyFrom_146 : decode cX0_copyFrom 146 = .ok (.getfield 43, 3) := by decide +kernel
theorem dX0_copyFrom_149 : decode cX0_copyFrom 149 = .ok (.iload_n 2, 1) := by decide +kernel
theorem dX0_copyFrom_150 : decode cX0_copyFrom 150 = .ok (.aaload, 1) := by decide +kernel
theorem dX0_copyFrom_151 : decode cX0_copyFrom 151 = .ok (.invokevirtual 68, 3) := by decide +kernel
theorem dX0_copyFrom_154 : decode cX0_copyFrom 154 = .ok (.iinc 2 1, 3) := by decide +kernel
theorem dX0_copyFrom_157 : decode cX0_copyFrom 157 = .ok (.goto (-27), 3) := by decide +kernel
theorem dX0_copyFrom_160 : decode cX0_copyFrom 160 = .ok (.return_, 1) := by decide +kernel
theorem dX0_isHirer_0 : decode cX0_isHirer 0 = .ok (.iload_n 1, 1) := by decide +kernel
theorem dX0_isHirer_1 : decode cX0_isHirer 1 = .ok (.ifCond .lt 21, 3) := by decide +kernel
theorem dX0_isHirer_4 : decode cX0_isHirer 4 = .ok (.iload_n 1, 1) := by decide +kernel
theorem dX0_isHirer_5 : decode cX0_isHirer 5 = .ok (.aload_n 0, 1) := by decide +kernel
theorem dX0_isHirer_6 : decode cX0_isHirer 6 = .ok (.getfield 52, 3) := by decide +kernel
theorem dX0_isHirer_9 : decode cX0_isHirer 9 = .ok (.if_icmp .ge 13, 3) := by decide +kernel
theorem dX0_isHirer_12 : decode cX0_isHirer 12 = .ok (.iload_n 1, 1) := by decide +kernel
theorem dX0_isHirer_13 : decode cX0_isHirer 13 = .ok (.bipush 10, 2) := by decide +kernel
theorem dX0_isHirer_15 : decode cX0_isHirer 15 = .ok (.if_icmp .ge 7, 3) := by decide +kernel
theorem dX0_isHirer_18 : decode cX0_isHirer 18 = .ok (.iconst 1, 1) := by decide +kernel
theorem dX0_isHirer_19 : decode cX0_isHirer 19 = .ok (.goto 4, 3) := by decide +kernel
theorem dX0_isHirer_22 : decode cX0_isHirer 22 = .ok (.iconst 0, 1) := by decide +kernel
theorem dX0_isHirer_23 : decode cX0_isHirer 23 = .ok (.ireturn, 1) := by decide +kernel
theorem dX0_isFull_0 : decode cX0_isFull 0 = .ok (.aload_n 0, 1) := by decide +kernel
theorem dX0_isFull_1 : decode cX0_isFull 1 = .ok (.getfield 55, 3) := by decide +kernel
theorem dX0_isFull_4 : decode cX0_isFull 4 = .ok (.bipush 12, 2) := by decide +kernel
theorem dX0_isFull_6 : decode cX0_isFull 6 = .ok (.if_icmp .lt 7, 3) := by decide +kernel
theorem dX0_isFull_9 : decode cX0_isFull 9 = .ok (.iconst 1, 1) := by decide +kernel
theorem dX0_isFull_10 : decode cX0_isFull 10 = .ok (.goto 4, 3) := by decide +kernel
theorem dX0_isFull_13 : decode cX0_isFull 13 = .ok (.iconst 0, 1) := by decide +kernel
theorem dX0_isFull_14 : decode cX0_isFull 14 = .ok (.ireturn, 1) := by decide +kernel
theorem dX0_hireAt_0 : decode cX0_hireAt 0 = .ok (.iload_n 1, 1) := by decide +kernel
theorem dX0_hireAt_1 : decode cX0_hireAt 1 = .ok (.ifCond .lt 29, 3) := by decide +kernel
theorem dX0_hireAt_4 : decode cX0_hireAt 4 = .ok (.iload_n 1, 1) := by decide +kernel
theorem dX0_hireAt_5 : decode cX0_hireAt 5 = .ok (.aload_n 0, 1) := by decide +kernel
theorem dX0_hireAt_6 : decode cX0_hireAt 6 = .ok (.getfield 55, 3) := by decide +kernel
theorem dX0_hireAt_9 : decode cX0_hireAt 9 = .ok (.if_icmp .ge 21, 3) := by decide +kernel
theorem dX0_hireAt_12 : decode cX0_hireAt 12 = .ok (.iload_n 1, 1) := by decide +kernel
theorem dX0_hireAt_13 : decode cX0_hireAt 13 = .ok (.aload_n 0, 1) := by decide +kernel
theorem dX0_hireAt_14 : decode cX0_hireAt 14 = .ok (.getfield 34, 3) := by decide +kernel
theorem dX0_hireAt_17 : decode cX0_hireAt 17 = .ok (.arraylength, 1) := by decide +kernel
theorem dX0_hireAt_18 : decode cX0_hireAt 18 = .ok (.if_icmp .ge 12, 3) := by decide +kernel
theorem dX0_hireAt_21 : decode cX0_hireAt 21 = .ok (.aload_n 0, 1) := by decide +kernel
theorem dX0_hireAt_22 : decode cX0_hireAt 22 = .ok (.getfield 34, 3) := by decide +kernel
theorem dX0_hireAt_25 : decode cX0_hireAt 25 = .ok (.iload_n 1, 1) := by decide +kernel
theorem dX0_hireAt_26 : decode cX0_hireAt 26 = .ok (.aaload, 1) := by decide +kernel
theorem dX0_hireAt_27 : decode cX0_hireAt 27 = .ok (.goto 4, 3) := by decide +kernel
theorem dX0_hireAt_30 : decode cX0_hireAt 30 = .ok (.aconst_null, 1) := by decide +kernel
theorem dX0_hireAt_31 : decode cX0_hireAt 31 = .ok (.areturn, 1) := by decide +kernel
set_option maxRecDepth 20000 in
theorem ggX0_hireOfSession_X0_hireAt : GoodIn wsX0_hireOfSession wsX0_hireAt := goodIn_r _ [6, 7, 8, 24, 25, 26, 27, 28, 29, 30, 31, 32] (by decide +kernel) (by decide +kernel)
set_option maxRecDepth 20000 in
theorem gX0_hireOfSession_X0_hireAt : GoodIn wsX0_hireOfSession (wsV RX0 71 RX0 yX0_hireAt wsX0_hireAt) := goodIn_app (goodIn_of _ (by decide +kernel)) ggX0_hireOfSession_X0_hireAt
theorem dX0_hireOfSession_0 : decode cX0_hireOfSession 0 = .ok (.iload_n 1, 1) := by decide +kernel
theorem dX0_hireOfSession_1 : decode cX0_hireOfSession 1 = .ok (.ifCond .ge 5, 3) := by decide +kernel
theorem dX0_hireOfSession_4 : decode cX0_hireOfSession 4 = .ok (.aconst_null, 1) := by decide +kernel
theorem dX0_hireOfSession_5 : decode cX0_hireOfSession 5 = .ok (.areturn, 1) := by decide +kernel
theorem dX0_hireOfSession_6 : decode cX0_hireOfSession 6 = .ok (.aload_n 0, 1) := by decide +kernel
theorem dX0_hireOfSession_7 : decode cX0_hireOfSession 7 = .ok (.iload_n 1, 1) := by decide +kernel
theorem dX0_hireOfSession_8 : decode cX0_hireOfSession 8 = .ok (.bipush 20, 2) := by decide +kernel
theorem dX0_hireOfSession_10 : decode cX0_hireOfSession 10 = .ok (.idiv, 1) := by decide +kernel
theorem dX0_hireOfSession_11 : decode cX0_hireOfSession 11 = .ok (.invokevirtual 71, 3) := by decide +kernel
theorem dX0_hireOfSession_14 : decode cX0_hireOfSession 14 = .ok (.astore_n 2, 1) := by decide +kernel
theorem dX0_hireOfSession_15 : decode cX0_hireOfSession 15 = .ok (.aload_n 2, 1) := by decide +kernel
theorem dX0_hireOfSession_16 : decode cX0_hireOfSession 16 = .ok (.ifnull 18, 3) := by decide +kernel
theorem dX0_hireOfSession_19 : decode cX0_hireOfSession 19 = .ok (.iload_n 1, 1) := by decide +kernel
theorem dX0_hireOfSession_20 : decode cX0_hireOfSession 20 = .ok (.bipush 20, 2) := by decide +kernel
theorem dX0_hireOfSession_22 : decode cX0_hireOfSession 22 = .ok (.irem, 1) := by decide +kernel
theorem dX0_hireOfSession_23 : decode cX0_hireOfSession 23 = .ok (.aload_n 2, 1) := by decide +kernel
theorem dX0_hireOfSession_24 : decode cX0_hireOfSession 24 = .ok (.getfield 75, 3) := by decide +kernel
theorem dX0_hireOfSession_27 : decode cX0_hireOfSession 27 = .ok (.if_icmp .ge 7, 3) := by decide +kernel
theorem dX0_hireOfSession_30 : decode cX0_hireOfSession 30 = .ok (.aload_n 2, 1) := by decide +kernel
theorem dX0_hireOfSession_31 : decode cX0_hireOfSession 31 = .ok (.goto 4, 3) := by decide +kernel
theorem dX0_hireOfSession_34 : decode cX0_hireOfSession 34 = .ok (.aconst_null, 1) := by decide +kernel
theorem dX0_hireOfSession_35 : decode cX0_hireOfSession 35 = .ok (.areturn, 1) := by decide +kernel
theorem dX0_keyAt_0 : decode cX0_keyAt 0 = .ok (.iload_n 1, 1) := by decide +kernel
theorem dX0_keyAt_1 : decode cX0_keyAt 1 = .ok (.ifCond .lt 21, 3) := by decide +kernel
theorem dX0_keyAt_4 : decode cX0_keyAt 4 = .ok (.iload_n 1, 1) := by decide +kernel
theorem dX0_keyAt_5 : decode cX0_keyAt 5 = .ok (.aload_n 0, 1) := by decide +kernel
theorem dX0_keyAt_6 : decode cX0_keyAt 6 = .ok (.getfield 43, 3) := by decide +kernel
theorem dX0_keyAt_9 : decode cX0_keyAt 9 = .ok (.arraylength, 1) := by decide +kernel
theorem dX0_keyAt_10 : decode cX0_keyAt 10 = .ok (.if_icmp .ge 12, 3) := by decide +kernel
theorem dX0_keyAt_13 : decode cX0_keyAt 13 = .ok (.aload_n 0, 1) := by decide +kernel
theorem dX0_keyAt_14 : decode cX0_keyAt 14 = .ok (.getfield 43, 3) := by decide +kernel
theorem dX0_keyAt_17 : decode cX0_keyAt 17 = .ok (.iload_n 1, 1) := by decide +kernel
theorem dX0_keyAt_18 : decode cX0_keyAt 18 = .ok (.aaload, 1) := by decide +kernel
theorem dX0_keyAt_19 : decode cX0_keyAt 19 = .ok (.goto 4, 3) := by decide +kernel
theorem dX0_keyAt_22 : decode cX0_keyAt 22 = .ok (.aconst_null, 1) := by decide +kernel
theorem dX0_keyAt_23 : decode cX0_keyAt 23 = .ok (.areturn, 1) := by decide +kernel
theorem dX0_hiresOf_0 : decode cX0_hiresOf 0 = .ok (.iconst 0, 1) := by decide +kernel
theorem dX0_hiresOf_1 : decode cX0_hiresOf 1 = .ok (.istore_n 2, 1) := by decide +kernel
theorem dX0_hiresOf_2 : decode cX0_hiresOf 2 = .ok (.aload_n 0, 1) := by decide +kernel
theorem dX0_hiresOf_3 : decode cX0_hiresOf 3 = .ok (.getfield 34, 3) := by decide +kernel
theorem dX0_hiresOf_6 : decode cX0_hiresOf 6 = .ok (.astore_n 3, 1) := by decide +kernel
theorem dX0_hiresOf_7 : decode cX0_hiresOf 7 = .ok (.aload_n 3, 1) := by decide +kernel
theorem dX0_hiresOf_8 : decode cX0_hiresOf 8 = .ok (.arraylength, 1) := by decide +kernel
theorem dX0_hiresOf_9 : decode cX0_hiresOf 9 = .ok (.istore 4, 2) := by decide +kernel
theorem dX0_hiresOf_11 : decode cX0_hiresOf 11 = .ok (.iconst 0, 1) := by decide +kernel
theorem dX0_hiresOf_12 : decode cX0_hiresOf 12 = .ok (.istore 5, 2) := by decide +kernel
theorem dX0_hiresOf_14 : decode cX0_hiresOf 14 = .ok (.iload 5, 2) := by decide +kernel
theorem dX0_hiresOf_16 : decode cX0_hiresOf 16 = .ok (.iload 4, 2) := by decide +kernel
theorem dX0_hiresOf_18 : decode cX0_hiresOf 18 = .ok (.if_icmp .ge 32, 3) := by decide +kernel
theorem dX0_hiresOf_21 : decode cX0_hiresOf 21 = .ok (.aload_n 3, 1) := by decide +kernel
theorem dX0_hiresOf_22 : decode cX0_hiresOf 22 = .ok (.iload 5, 2) := by decide +kernel
theorem dX0_hiresOf_24 : decode cX0_hiresOf 24 = .ok (.aaload, 1) := by decide +kernel
theorem dX0_hiresOf_25 : decode cX0_hiresOf 25 = .ok (.astore 6, 2) := by decide +kernel
theorem dX0_hiresOf_27 : decode cX0_hiresOf 27 = .ok (.iload_n 2, 1) := by decide +kernel
theorem dX0_hiresOf_28 : decode cX0_hiresOf 28 = .ok (.aload 6, 2) := by decide +kernel
theorem dX0_hiresOf_30 : decode cX0_hiresOf 30 = .ok (.getfield 78, 3) := by decide +kernel
theorem dX0_hiresOf_33 : decode cX0_hiresOf 33 = .ok (.iload_n 1, 1) := by decide +kernel
theorem dX0_hiresOf_34 : decode cX0_hiresOf 34 = .ok (.if_icmp .ne 7, 3) := by decide +kernel
theorem dX0_hiresOf_37 : decode cX0_hiresOf 37 = .ok (.iconst 1, 1) := by decide +kernel
theorem dX0_hiresOf_38 : decode cX0_hiresOf 38 = .ok (.goto 4, 3) := by decide +kernel
theorem dX0_hiresOf_41 : decode cX0_hiresOf 41 = .ok (.iconst 0, 1) := by decide +kernel
theorem dX0_hiresOf_42 : decode cX0_hiresOf 42 = .ok (.iadd, 1) := by decide +kernel
theorem dX0_hiresOf_43 : decode cX0_hiresOf 43 = .ok (.istore_n 2, 1) := by decide +kernel
theorem dX0_hiresOf_44 : decode cX0_hiresOf 44 = .ok (.iinc 5 1, 3) := by decide +kernel
theorem dX0_hiresOf_47 : decode cX0_hiresOf 47 = .ok (.goto (-33), 3) := by decide +kernel
theorem dX0_hiresOf_50 : decode cX0_hiresOf 50 = .ok (.iload_n 2, 1) := by decide +kernel
theorem dX0_hiresOf_51 : decode cX0_hiresOf 51 = .ok (.ireturn, 1) := by decide +kernel
set_option maxRecDepth 20000 in
theorem ggX0_plannedOf_X1_plannedSessions : GoodIn wsX0_plannedOf wsX1_plannedSessions := goodIn_r _ [7, 8, 9, 10, 11, 12, 13, 14, 15, 16, 17, 27, 28, 29, 30, 31, 32, 33, 34, 35, 36, 37, 38, 39, 40, 41] (by decide +kernel) (by decide +kernel)
set_option maxRecDepth 20000 in
theorem gX0_plannedOf_X1_plannedSessions : GoodIn wsX0_plannedOf (wsV RX0 81 RX1 yX1_plannedSessions wsX1_plannedSessions) := goodIn_app (goodIn_of _ (by decide +kernel)) ggX0_plannedOf_X1_plannedSessions
theorem dX0_plannedOf_0 : decode cX0_plannedOf 0 = .ok (.iconst 0, 1) := by decide +kernel
theorem dX0_plannedOf_1 : decode cX0_plannedOf 1 = .ok (.istore_n 2, 1) := by decide +kernel
theorem dX0_plannedOf_2 : decode cX0_plannedOf 2 = .ok (.aload_n 0, 1) := by decide +kernel
theorem dX0_plannedOf_3 : decode cX0_plannedOf 3 = .ok (.getfield 34, 3) := by decide +kernel
theorem dX0_plannedOf_6 : decode cX0_plannedOf 6 = .ok (.astore_n 3, 1) := by decide +kernel
theorem dX0_plannedOf_7 : decode cX0_plannedOf 7 = .ok (.aload_n 3, 1) := by decide +kernel
theorem dX0_plannedOf_8 : decode cX0_plannedOf 8 = .ok (.arraylength, 1) := by decide +kernel
theorem dX0_plannedOf_9 : decode cX0_plannedOf 9 = .ok (.istore 4, 2) := by decide +kernel
theorem dX0_plannedOf_11 : decode cX0_plannedOf 11 = .ok (.iconst 0, 1) := by decide +kernel
theorem dX0_plannedOf_12 : decode cX0_plannedOf 12 = .ok (.istore 5, 2) := by decide +kernel
theorem dX0_plannedOf_14 : decode cX0_plannedOf 14 = .ok (.iload 5, 2) := by decide +kernel
theorem dX0_plannedOf_16 : decode cX0_plannedOf 16 = .ok (.iload 4, 2) := by decide +kernel
theorem dX0_plannedOf_18 : decode cX0_plannedOf 18 = .ok (.if_icmp .ge 36, 3) := by decide +kernel
theorem dX0_plannedOf_21 : decode cX0_plannedOf 21 = .ok (.aload_n 3, 1) := by decide +kernel
theorem dX0_plannedOf_22 : decode cX0_plannedOf 22 = .ok (.iload 5, 2) := by decide +kernel
theorem dX0_plannedOf_24 : decode cX0_plannedOf 24 = .ok (.aaload, 1) := by decide +kernel
theorem dX0_plannedOf_25 : decode cX0_plannedOf 25 = .ok (.astore 6, 2) := by decide +kernel
theorem dX0_plannedOf_27 : decode cX0_plannedOf 27 = .ok (.iload_n 2, 1) := by decide +kernel
theorem dX0_plannedOf_28 : decode cX0_plannedOf 28 = .ok (.aload 6, 2) := by decide +kernel
theorem dX0_plannedOf_30 : decode cX0_plannedOf 30 = .ok (.getfield 78, 3) := by decide +kernel
theorem dX0_plannedOf_33 : decode cX0_plannedOf 33 = .ok (.iload_n 1, 1) := by decide +kernel
theorem dX0_plannedOf_34 : decode cX0_plannedOf 34 = .ok (.if_icmp .ne 11, 3) := by decide +kernel
theorem dX0_plannedOf_37 : decode cX0_plannedOf 37 = .ok (.aload 6, 2) := by decide +kernel
theorem dX0_plannedOf_39 : decode cX0_plannedOf 39 = .ok (.invokevirtual 81, 3) := by decide +kernel
theorem dX0_plannedOf_42 : decode cX0_plannedOf 42 = .ok (.goto 4, 3) := by decide +kernel
theorem dX0_plannedOf_45 : decode cX0_plannedOf 45 = .ok (.iconst 0, 1) := by decide +kernel
theorem dX0_plannedOf_46 : decode cX0_plannedOf 46 = .ok (.iadd, 1) := by decide +kernel
theorem dX0_plannedOf_47 : decode cX0_plannedOf 47 = .ok (.istore_n 2, 1) := by decide +kernel
theorem dX0_plannedOf_48 : decode cX0_plannedOf 48 = .ok (.iinc 5 1, 3) := by decide +kernel
theorem dX0_plannedOf_51 : decode cX0_plannedOf 51 = .ok (.goto (-37), 3) := by decide +kernel
theorem dX0_plannedOf_54 : decode cX0_plannedOf 54 = .ok (.iload_n 2, 1) := by decide +kernel
theorem dX0_plannedOf_55 : decode cX0_plannedOf 55 = .ok (.ireturn, 1) := by decide +kernel
theorem dX0_faultsOf_0 : decode cX0_faultsOf 0 = .ok (.iconst 0, 1) := by decide +kernel
theorem dX0_faultsOf_1 : decode cX0_faultsOf 1 = .ok (.istore_n 2, 1) := by decide +kernel
theorem dX0_faultsOf_2 : decode cX0_faultsOf 2 = .ok (.aload_n 0, 1) := by decide +kernel
theorem dX0_faultsOf_3 : decode cX0_faultsOf 3 = .ok (.getfield 34, 3) := by decide +kernel
theorem dX0_faultsOf_6 : decode cX0_faultsOf 6 = .ok (.astore_n 3, 1) := by decide +kernel
theorem dX0_faultsOf_7 : decode cX0_faultsOf 7 = .ok (.aload_n 3, 1) := by decide +kernel
theorem dX0_faultsOf_8 : decode cX0_faultsOf 8 = .ok (.arraylength, 1) := by decide +kernel
theorem dX0_faultsOf_9 : decode cX0_faultsOf 9 = .ok (.istore 4, 2) := by decide +kernel
theorem dX0_faultsOf_11 : decode cX0_faultsOf 11 = .ok (.iconst 0, 1) := by decide +kernel
theorem dX0_faultsOf_12 : decode cX0_faultsOf 12 = .ok (.istore 5, 2) := by decide +kernel
theorem dX0_faultsOf_14 : decode cX0_faultsOf 14 = .ok (.iload 5, 2) := by decide +kernel
theorem dX0_faultsOf_16 : decode cX0_faultsOf 16 = .ok (.iload 4, 2) := by decide +kernel
theorem dX0_faultsOf_18 : decode cX0_faultsOf 18 = .ok (.if_icmp .ge 36, 3) := by decide +kernel
theorem dX0_faultsOf_21 : decode cX0_faultsOf 21 = .ok (.aload_n 3, 1) := by decide +kernel
theorem dX0_faultsOf_22 : decode cX0_faultsOf 22 = .ok (.iload 5, 2) := by decide +kernel
theorem dX0_faultsOf_24 : decode cX0_faultsOf 24 = .ok (.aaload, 1) := by decide +kernel
theorem dX0_faultsOf_25 : decode cX0_faultsOf 25 = .ok (.astore 6, 2) := by decide +kernel
theorem dX0_faultsOf_27 : decode cX0_faultsOf 27 = .ok (.iload_n 2, 1) := by decide +kernel
theorem dX0_faultsOf_28 : decode cX0_faultsOf 28 = .ok (.aload 6, 2) := by decide +kernel
theorem dX0_faultsOf_30 : decode cX0_faultsOf 30 = .ok (.getfield 78, 3) := by decide +kernel
theorem dX0_faultsOf_33 : decode cX0_faultsOf 33 = .ok (.iload_n 1, 1) := by decide +kernel
theorem dX0_faultsOf_34 : decode cX0_faultsOf 34 = .ok (.if_icmp .ne 11, 3) := by decide +kernel
theorem dX0_faultsOf_37 : decode cX0_faultsOf 37 = .ok (.aload 6, 2) := by decide +kernel
theorem dX0_faultsOf_39 : decode cX0_faultsOf 39 = .ok (.getfield 85, 3) := by decide +kernel
theorem dX0_faultsOf_42 : decode cX0_faultsOf 42 = .ok (.goto 4, 3) := by decide +kernel
theorem dX0_faultsOf_45 : decode cX0_faultsOf 45 = .ok (.iconst 0, 1) := by decide +kernel
theorem dX0_faultsOf_46 : decode cX0_faultsOf 46 = .ok (.iadd, 1) := by decide +kernel
theorem dX0_faultsOf_47 : decode cX0_faultsOf 47 = .ok (.istore_n 2, 1) := by decide +kernel
theorem dX0_faultsOf_48 : decode cX0_faultsOf 48 = .ok (.iinc 5 1, 3) := by decide +kernel
theorem dX0_faultsOf_51 : decode cX0_faultsOf 51 = .ok (.goto (-37), 3) := by decide +kernel
theorem dX0_faultsOf_54 : decode cX0_faultsOf 54 = .ok (.iload_n 2, 1) := by decide +kernel
theorem dX0_faultsOf_55 : decode cX0_faultsOf 55 = .ok (.ireturn, 1) := by decide +kernel
set_option maxRecDepth 20000 in
theorem ggX0_keysOf_X0_keysFor : GoodIn wsX0_keysOf wsX0_keysFor := goodIn_r _ [8, 9, 10, 11, 12, 13, 14, 15, 16, 17, 18, 19, 35, 36, 37] (by decide +kernel) (by decide +kernel)
set_option maxRecDepth 20000 in
theorem gX0_keysOf_X0_keysFor : GoodIn wsX0_keysOf (wsV RX0 91 RX0 yX0_keysFor wsX0_keysFor) := goodIn_app (goodIn_of _ (by decide +kernel)) ggX0_keysOf_X0_keysFor
theorem dX0_keysOf_0 : decode cX0_keysOf 0 = .ok (.iconst 0, 1) := by decide +kernel
theorem dX0_keysOf_1 : decode cX0_keysOf 1 = .ok (.istore_n 2, 1) := by decide +kernel
theorem dX0_keysOf_2 : decode cX0_keysOf 2 = .ok (.aload_n 0, 1) := by decide +kernel
theorem dX0_keysOf_3 : decode cX0_keysOf 3 = .ok (.getfield 34, 3) := by decide +kernel
theorem dX0_keysOf_6 : decode cX0_keysOf 6 = .ok (.astore_n 3, 1) := by decide +kernel
theorem dX0_keysOf_7 : decode cX0_keysOf 7 = .ok (.aload_n 3, 1) := by decide +kernel
theorem dX0_keysOf_8 : decode cX0_keysOf 8 = .ok (.arraylength, 1) := by decide +kernel
theorem dX0_keysOf_9 : decode cX0_keysOf 9 = .ok (.istore 4, 2) := by decide +kernel
theorem dX0_keysOf_11 : decode cX0_keysOf 11 = .ok (.iconst 0, 1) := by decide +kernel
theorem dX0_keysOf_12 : decode cX0_keysOf 12 = .ok (.istore 5, 2) := by decide +kernel
theorem dX0_keysOf_14 : decode cX0_keysOf 14 = .ok (.iload 5, 2) := by decide +kernel
theorem dX0_keysOf_16 : decode cX0_keysOf 16 = .ok (.iload 4, 2) := by decide +kernel
theorem dX0_keysOf_18 : decode cX0_keysOf 18 = .ok (.if_icmp .ge 40, 3) := by decide +kernel
theorem dX0_keysOf_21 : decode cX0_keysOf 21 = .ok (.aload_n 3, 1) := by decide +kernel
theorem dX0_keysOf_22 : decode cX0_keysOf 22 = .ok (.iload 5, 2) := by decide +kernel
theorem dX0_keysOf_24 : decode cX0_keysOf 24 = .ok (.aaload, 1) := by decide +kernel
theorem dX0_keysOf_25 : decode cX0_keysOf 25 = .ok (.astore 6, 2) := by decide +kernel
theorem dX0_keysOf_27 : decode cX0_keysOf 27 = .ok (.iload_n 2, 1) := by decide +kernel
theorem dX0_keysOf_28 : decode cX0_keysOf 28 = .ok (.aload 6, 2) := by decide +kernel
theorem dX0_keysOf_30 : decode cX0_keysOf 30 = .ok (.getfield 78, 3) := by decide +kernel
theorem dX0_keysOf_33 : decode cX0_keysOf 33 = .ok (.iload_n 1, 1) := by decide +kernel
theorem dX0_keysOf_34 : decode cX0_keysOf 34 = .ok (.if_icmp .ne 15, 3) := by decide +kernel
theorem dX0_keysOf_37 : decode cX0_keysOf 37 = .ok (.aload_n 0, 1) := by decide +kernel
theorem dX0_keysOf_38 : decode cX0_keysOf 38 = .ok (.aload 6, 2) := by decide +kernel
theorem dX0_keysOf_40 : decode cX0_keysOf 40 = .ok (.getfield 88, 3) := by decide +kernel
theorem dX0_keysOf_43 : decode cX0_keysOf 43 = .ok (.invokevirtual 91, 3) := by decide +kernel
theorem dX0_keysOf_46 : decode cX0_keysOf 46 = .ok (.goto 4, 3) := by decide +kernel
theorem dX0_keysOf_49 : decode cX0_keysOf 49 = .ok (.iconst 0, 1) := by decide +kernel
theorem dX0_keysOf_50 : decode cX0_keysOf 50 = .ok (.iadd, 1) := by decide +kernel
theorem dX0_keysOf_51 : decode cX0_keysOf 51 = .ok (.istore_n 2, 1) := by decide +kernel
theorem dX0_keysOf_52 : decode cX0_keysOf 52 = .ok (.iinc 5 1, 3) := by decide +kernel
theorem dX0_keysOf_55 : decode cX0_keysOf 55 = .ok (.goto (-41), 3) := by decide +kernel
theorem dX0_keysOf_58 : decode cX0_keysOf 58 = .ok (.iload_n 2, 1) := by decide +kernel
theorem dX0_keysOf_59 : decode cX0_keysOf 59 = .ok (.ireturn, 1) := by decide +kernel
theorem dX0_keysFor_0 : decode cX0_keysFor 0 = .ok (.iconst 0, 1) := by decide +kernel
theorem dX0_keysFor_1 : decode cX0_keysFor 1 = .ok (.istore_n 2, 1) := by decide +kernel
theorem dX0_keysFor_2 : decode cX0_keysFor 2 = .ok (.aload_n 0, 1) := by decide +kernel
theorem dX0_keysFor_3 : decode cX0_keysFor 3 = .ok (.getfield 43, 3) := by decide +kernel
theorem dX0_keysFor_6 : decode cX0_keysFor 6 = .ok (.astore_n 3, 1) := by decide +kernel
theorem dX0_keysFor_7 : decode cX0_keysFor 7 = .ok (.aload_n 3, 1) := by decide +kernel
theorem dX0_keysFor_8 : decode cX0_keysFor 8 = .ok (.arraylength, 1) := by decide +kernel
theorem dX0_keysFor_9 : decode cX0_keysFor 9 = .ok (.istore 4, 2) := by decide +kernel
theorem dX0_keysFor_11 : decode cX0_keysFor 11 = .ok (.iconst 0, 1) := by decide +kernel
theorem dX0_keysFor_12 : decode cX0_keysFor 12 = .ok (.istore 5, 2) := by decide +kernel
theorem dX0_keysFor_14 : decode cX0_keysFor 14 = .ok (.iload 5, 2) := by decide +kernel
theorem dX0_keysFor_16 : decode cX0_keysFor 16 = .ok (.iload 4, 2) := by decide +kernel
theorem dX0_keysFor_18 : decode cX0_keysFor 18 = .ok (.if_icmp .ge 32, 3) := by decide +kernel
theorem dX0_keysFor_21 : decode cX0_keysFor 21 = .ok (.aload_n 3, 1) := by decide +kernel
theorem dX0_keysFor_22 : decode cX0_keysFor 22 = .ok (.iload 5, 2) := by decide +kernel
theorem dX0_keysFor_24 : decode cX0_keysFor 24 = .ok (.aaload, 1) := by decide +kernel
theorem dX0_keysFor_25 : decode cX0_keysFor 25 = .ok (.astore 6, 2) := by decide +kernel
theorem dX0_keysFor_27 : decode cX0_keysFor 27 = .ok (.iload_n 2, 1) := by decide +kernel
theorem dX0_keysFor_28 : decode cX0_keysFor 28 = .ok (.aload 6, 2) := by decide +kernel
theorem dX0_keysFor_30 : decode cX0_keysFor 30 = .ok (.getfield 95, 3) := by decide +kernel
theorem dX0_keysFor_33 : decode cX0_keysFor 33 = .ok (.iload_n 1, 1) := by decide +kernel
theorem dX0_keysFor_34 : decode cX0_keysFor 34 = .ok (.if_icmp .ne 7, 3) := by decide +kernel
theorem dX0_keysFor_37 : decode cX0_keysFor 37 = .ok (.iconst 1, 1) := by decide +kernel
theorem dX0_keysFor_38 : decode cX0_keysFor 38 = .ok (.goto 4, 3) := by decide +kernel
theorem dX0_keysFor_41 : decode cX0_keysFor 41 = .ok (.iconst 0, 1) := by decide +kernel
theorem dX0_keysFor_42 : decode cX0_keysFor 42 = .ok (.iadd, 1) := by decide +kernel
theorem dX0_keysFor_43 : decode cX0_keysFor 43 = .ok (.istore_n 2, 1) := by decide +kernel
theorem dX0_keysFor_44 : decode cX0_keysFor 44 = .ok (.iinc 5 1, 3) := by decide +kernel
theorem dX0_keysFor_47 : decode cX0_keysFor 47 = .ok (.goto (-33), 3) := by decide +kernel
theorem dX0_keysFor_50 : decode cX0_keysFor 50 = .ok (.iload_n 2, 1) := by decide +kernel
theorem dX0_keysFor_51 : decode cX0_keysFor 51 = .ok (.ireturn, 1) := by decide +kernel
set_option maxRecDepth 20000 in
theorem ggX0_lateKeys_X3_daysLate : GoodIn wsX0_lateKeys wsX3_daysLate := goodIn_r _ [7, 8, 9, 10, 11, 12, 13, 23, 24, 25] (by decide +kernel) (by decide +kernel)
set_option maxRecDepth 20000 in
theorem gX0_lateKeys_X3_daysLate : GoodIn wsX0_lateKeys (wsV RX0 98 RX3 yX3_daysLate wsX3_daysLate) := goodIn_app (goodIn_of _ (by decide +kernel)) ggX0_lateKeys_X3_daysLate
theorem dX0_lateKeys_0 : decode cX0_lateKeys 0 = .ok (.iconst 0, 1) := by decide +kernel
theorem dX0_lateKeys_1 : decode cX0_lateKeys 1 = .ok (.istore_n 1, 1) := by decide +kernel
theorem dX0_lateKeys_2 : decode cX0_lateKeys 2 = .ok (.aload_n 0, 1) := by decide +kernel
theorem dX0_lateKeys_3 : decode cX0_lateKeys 3 = .ok (.getfield 43, 3) := by decide +kernel
theorem dX0_lateKeys_6 : decode cX0_lateKeys 6 = .ok (.astore_n 2, 1) := by decide +kernel
theorem dX0_lateKeys_7 : decode cX0_lateKeys 7 = .ok (.aload_n 2, 1) := by decide +kernel
theorem dX0_lateKeys_8 : decode cX0_lateKeys 8 = .ok (.arraylength, 1) := by decide +kernel
theorem dX0_lateKeys_9 : decode cX0_lateKeys 9 = .ok (.istore_n 3, 1) := by decide +kernel
theorem dX0_lateKeys_10 : decode cX0_lateKeys 10 = .ok (.iconst 0, 1) := by decide +kernel
theorem dX0_lateKeys_11 : decode cX0_lateKeys 11 = .ok (.istore 4, 2) := by decide +kernel
theorem dX0_lateKeys_13 : decode cX0_lateKeys 13 = .ok (.iload 4, 2) := by decide +kernel
theorem dX0_lateKeys_15 : decode cX0_lateKeys 15 = .ok (.iload_n 3, 1) := by decide +kernel
theorem dX0_lateKeys_16 : decode cX0_lateKeys 16 = .ok (.if_icmp .ge 35, 3) := by decide +kernel
theorem dX0_lateKeys_19 : decode cX0_lateKeys 19 = .ok (.aload_n 2, 1) := by decide +kernel
theorem dX0_lateKeys_20 : decode cX0_lateKeys 20 = .ok (.iload 4, 2) := by decide +kernel
theorem dX0_lateKeys_22 : decode cX0_lateKeys 22 = .ok (.aaload, 1) := by decide +kernel
theorem dX0_lateKeys_23 : decode cX0_lateKeys 23 = .ok (.astore 5, 2) := by decide +kernel
theorem dX0_lateKeys_25 : decode cX0_lateKeys 25 = .ok (.iload_n 1, 1) := by decide +kernel
theorem dX0_lateKeys_26 : decode cX0_lateKeys 26 = .ok (.aload 5, 2) := by decide +kernel
theorem dX0_lateKeys_28 : decode cX0_lateKeys 28 = .ok (.aload_n 0, 1) := by decide +kernel
theorem dX0_lateKeys_29 : decode cX0_lateKeys 29 = .ok (.getfield 48, 3) := by decide +kernel
theorem dX0_lateKeys_32 : decode cX0_lateKeys 32 = .ok (.invokevirtual 98, 3) := by decide +kernel
theorem dX0_lateKeys_35 : decode cX0_lateKeys 35 = .ok (.ifCond .le 7, 3) := by decide +kernel
theorem dX0_lateKeys_38 : decode cX0_lateKeys 38 = .ok (.iconst 1, 1) := by decide +kernel
theorem dX0_lateKeys_39 : decode cX0_lateKeys 39 = .ok (.goto 4, 3) := by decide +kernel
theorem dX0_lateKeys_42 : decode cX0_lateKeys 42 = .ok (.iconst 0, 1) := by decide +kernel
theorem dX0_lateKeys_43 : decode cX0_lateKeys 43 = .ok (.iadd, 1) := by decide +kernel
theorem dX0_lateKeys_44 : decode cX0_lateKeys 44 = .ok (.istore_n 1, 1) := by decide +kernel
theorem dX0_lateKeys_45 : decode cX0_lateKeys 45 = .ok (.iinc 4 1, 3) := by decide +kernel
theorem dX0_lateKeys_48 : decode cX0_lateKeys 48 = .ok (.goto (-35), 3) := by decide +kernel
theorem dX0_lateKeys_51 : decode cX0_lateKeys 51 = .ok (.iload_n 1, 1) := by decide +kernel
theorem dX0_lateKeys_52 : decode cX0_lateKeys 52 = .ok (.ireturn, 1) := by decide +kernel
set_option maxRecDepth 20000 in
theorem ggX0_sessionsNotCancelled_J6_bitCount_0f7a4 : GoodIn wsX0_sessionsNotCancelled wsJ6_bitCount_0f7a4 := goodIn_r _ [7, 8, 9, 10] (by decide +kernel) (by decide +kernel)
set_option maxRecDepth 20000 in
theorem gX0_sessionsNotCancelled_J6_bitCount_0f7a4 : GoodIn wsX0_sessionsNotCancelled (va_wsS RX0 104 yJ6_bitCount_0f7a4 wsJ6_bitCount_0f7a4) := goodIn_app (goodIn_of _ (by decide +kernel)) ggX0_sessionsNotCancelled_J6_bitCount_0f7a4
theorem dX0_sessionsNotCancelled_0 : decode cX0_sessionsNotCancelled 0 = .ok (.iconst 0, 1) := by decide +kernel
theorem dX0_sessionsNotCancelled_1 : decode cX0_sessionsNotCancelled 1 = .ok (.istore_n 1, 1) := by decide +kernel
theorem dX0_sessionsNotCancelled_2 : decode cX0_sessionsNotCancelled 2 = .ok (.aload_n 0, 1) := by decide +kernel
theorem dX0_sessionsNotCancelled_3 : decode cX0_sessionsNotCancelled 3 = .ok (.getfield 34, 3) := by decide +kernel
theorem dX0_sessionsNotCancelled_6 : decode cX0_sessionsNotCancelled 6 = .ok (.astore_n 2, 1) := by decide +kernel
theorem dX0_sessionsNotCancelled_7 : decode cX0_sessionsNotCancelled 7 = .ok (.aload_n 2, 1) := by decide +kernel
theorem dX0_sessionsNotCancelled_8 : decode cX0_sessionsNotCancelled 8 = .ok (.arraylength, 1) := by decide +kernel
theorem dX0_sessionsNotCancelled_9 : decode cX0_sessionsNotCancelled 9 = .ok (.istore_n 3, 1) := by decide +kernel
theorem dX0_sessionsNotCancelled_10 : decode cX0_sessionsNotCancelled 10 = .ok (.iconst 0, 1) := by decide +kernel
theorem dX0_sessionsNotCancelled_11 : decode cX0_sessionsNotCancelled 11 = .ok (.istore 4, 2) := by decide +kernel
theorem dX0_sessionsNotCancelled_13 : decode cX0_sessionsNotCancelled 13 = .ok (.iload 4, 2) := by decide +kernel
theorem dX0_sessionsNotCancelled_15 : decode cX0_sessionsNotCancelled 15 = .ok (.iload_n 3, 1) := by decide +kernel
theorem dX0_sessionsNotCancelled_16 : decode cX0_sessionsNotCancelled 16 = .ok (.if_icmp .ge 32, 3) := by decide +kernel
theorem dX0_sessionsNotCancelled_19 : decode cX0_sessionsNotCancelled 19 = .ok (.aload_n 2, 1) := by decide +kernel
theorem dX0_sessionsNotCancelled_20 : decode cX0_sessionsNotCancelled 20 = .ok (.iload 4, 2) := by decide +kernel
theorem dX0_sessionsNotCancelled_22 : decode cX0_sessionsNotCancelled 22 = .ok (.aaload, 1) := by decide +kernel
theorem dX0_sessionsNotCancelled_23 : decode cX0_sessionsNotCancelled 23 = .ok (.astore 5, 2) := by decide +kernel
theorem dX0_sessionsNotCancelled_25 : decode cX0_sessionsNotCancelled 25 = .ok (.iload_n 1, 1) := by decide +kernel
theorem dX0_sessionsNotCancelled_26 : decode cX0_sessionsNotCancelled 26 = .ok (.aload 5, 2) := by decide +kernel
theorem dX0_sessionsNotCancelled_28 : decode cX0_sessionsNotCancelled 28 = .ok (.getfield 75, 3) := by decide +kernel
theorem dX0_sessionsNotCancelled_31 : decode cX0_sessionsNotCancelled 31 = .ok (.aload 5, 2) := by decide +kernel
theorem dX0_sessionsNotCancelled_33 : decode cX0_sessionsNotCancelled 33 = .ok (.getfield 101, 3) := by decide +kernel
theorem dX0_sessionsNotCancelled_36 : decode cX0_sessionsNotCancelled 36 = .ok (.invokestatic 104, 3) := by decide +kernel
theorem dX0_sessionsNotCancelled_39 : decode cX0_sessionsNotCancelled 39 = .ok (.isub, 1) := by decide +kernel
theorem dX0_sessionsNotCancelled_40 : decode cX0_sessionsNotCancelled 40 = .ok (.iadd, 1) := by decide +kernel
theorem dX0_sessionsNotCancelled_41 : decode cX0_sessionsNotCancelled 41 = .ok (.istore_n 1, 1) := by decide +kernel
theorem dX0_sessionsNotCancelled_42 : decode cX0_sessionsNotCancelled 42 = .ok (.iinc 4 1, 3) := by decide +kernel
theorem dX0_sessionsNotCancelled_45 : decode cX0_sessionsNotCancelled 45 = .ok (.goto (-32), 3) := by decide +kernel
theorem dX0_sessionsNotCancelled_48 : decode cX0_sessionsNotCancelled 48 = .ok (.iload_n 1, 1) := by decide +kernel
theorem dX0_sessionsNotCancelled_49 : decode cX0_sessionsNotCancelled 49 = .ok (.ireturn, 1) := by decide +kernel
set_option maxRecDepth 20000 in
theorem ggX0_roomHoursHeld_X1_roomHoursHeld : GoodIn wsX0_roomHoursHeld wsX1_roomHoursHeld := goodIn_r _ [6, 7, 8, 9, 10, 11, 12, 13, 14, 15, 16, 17, 27, 28, 29, 30, 31, 32, 33, 34, 35, 36, 37, 38, 39, 40, 41] (by decide +kernel) (by decide +kernel)
set_option maxRecDepth 20000 in
theorem gX0_roomHoursHeld_X1_roomHoursHeld : GoodIn wsX0_roomHoursHeld (wsV RX0 109 RX1 yX1_roomHoursHeld wsX1_roomHoursHeld) := goodIn_app (goodIn_of _ (by decide +kernel)) ggX0_roomHoursHeld_X1_roomHoursHeld
theorem dX0_roomHoursHeld_0 : decode cX0_roomHoursHeld 0 = .ok (.iconst 0, 1) := by decide +kernel
theorem dX0_roomHoursHeld_1 : decode cX0_roomHoursHeld 1 = .ok (.istore_n 1, 1) := by decide +kernel
theorem dX0_roomHoursHeld_2 : decode cX0_roomHoursHeld 2 = .ok (.aload_n 0, 1) := by decide +kernel
theorem dX0_roomHoursHeld_3 : decode cX0_roomHoursHeld 3 = .ok (.getfield 34, 3) := by decide +kernel
theorem dX0_roomHoursHeld_6 : decode cX0_roomHoursHeld 6 = .ok (.astore_n 2, 1) := by decide +kernel
theorem dX0_roomHoursHeld_7 : decode cX0_roomHoursHeld 7 = .ok (.aload_n 2, 1) := by decide +kernel
theorem dX0_roomHoursHeld_8 : decode cX0_roomHoursHeld 8 = .ok (.arraylength, 1) := by decide +kernel
theorem dX0_roomHoursHeld_9 : decode cX0_roomHoursHeld 9 = .ok (.istore_n 3, 1) := by decide +kernel
theorem dX0_roomHoursHeld_10 : decode cX0_roomHoursHeld 10 = .ok (.iconst 0, 1) := by decide +kernel
theorem dX0_roomHoursHeld_11 : decode cX0_roomHoursHeld 11 = .ok (.istore 4, 2) := by decide +kernel
theorem dX0_roomHoursHeld_13 : decode cX0_roomHoursHeld 13 = .ok (.iload 4, 2) := by decide +kernel
theorem dX0_roomHoursHeld_15 : decode cX0_roomHoursHeld 15 = .ok (.iload_n 3, 1) := by decide +kernel
theorem dX0_roomHoursHeld_16 : decode cX0_roomHoursHeld 16 = .ok (.if_icmp .ge 23, 3) := by decide +kernel
theorem dX0_roomHoursHeld_19 : decode cX0_roomHoursHeld 19 = .ok (.aload_n 2, 1) := by decide +kernel
theorem dX0_roomHoursHeld_20 : decode cX0_roomHoursHeld 20 = .ok (.iload 4, 2) := by decide +kernel
theorem dX0_roomHoursHeld_22 : decode cX0_roomHoursHeld 22 = .ok (.aaload, 1) := by decide +kernel
theorem dX0_roomHoursHeld_23 : decode cX0_roomHoursHeld 23 = .ok (.astore 5, 2) := by decide +kernel
theorem dX0_roomHoursHeld_25 : decode cX0_roomHoursHeld 25 = .ok (.iload_n 1, 1) := by decide +kernel
theorem dX0_roomHoursHeld_26 : decode cX0_roomHoursHeld 26 = .ok (.aload 5, 2) := by decide +kernel
theorem dX0_roomHoursHeld_28 : decode cX0_roomHoursHeld 28 = .ok (.invokevirtual 109, 3) := by decide +kernel
theorem dX0_roomHoursHeld_31 : decode cX0_roomHoursHeld 31 = .ok (.iadd, 1) := by decide +kernel
theorem dX0_roomHoursHeld_32 : decode cX0_roomHoursHeld 32 = .ok (.istore_n 1, 1) := by decide +kernel
theorem dX0_roomHoursHeld_33 : decode cX0_roomHoursHeld 33 = .ok (.iinc 4 1, 3) := by decide +kernel
theorem dX0_roomHoursHeld_36 : decode cX0_roomHoursHeld 36 = .ok (.goto (-23), 3) := by decide +kernel
theorem dX0_roomHoursHeld_39 : decode cX0_roomHoursHeld 39 = .ok (.iload_n 1, 1) := by decide +kernel
theorem dX0_roomHoursHeld_40 : decode cX0_roomHoursHeld 40 = .ok (.ireturn, 1) := by decide +kernel
set_option maxRecDepth 20000 in
theorem ggX0_priceOf_X0_priceOfSession : GoodIn wsX0_priceOf wsX0_priceOfSession := goodIn_r _ [6, 7, 8, 9, 10, 11, 12, 13, 14, 18, 19, 20, 21, 22, 23, 24, 25, 26, 27, 28, 29, 30, 31, 32, 33] (by decide +kernel) (by decide +kernel)
set_option maxRecDepth 20000 in
theorem gX0_priceOf_X0_priceOfSession : GoodIn wsX0_priceOf (wsV RX0 115 RX0 yX0_priceOfSession wsX0_priceOfSession) := goodIn_app (goodIn_of _ (by decide +kernel)) ggX0_priceOf_X0_priceOfSession
set_option maxRecDepth 20000 in
theorem ggX0_priceOf_X7_discountOf : GoodIn wsX0_priceOf wsX7_discountOf := goodIn_r _ [17] (by decide +kernel) (by decide +kernel)
set_option maxRecDepth 20000 in
theorem gX0_priceOf_X7_discountOf_n119 : GoodIn wsX0_priceOf (wsX7_discountOf) := ggX0_priceOf_X7_discountOf
theorem dX0_priceOf_0 : decode cX0_priceOf 0 = .ok (.aload_n 1, 1) := by decide +kernel
theorem dX0_priceOf_1 : decode cX0_priceOf 1 = .ok (.getfield 112, 3) := by decide +kernel
theorem dX0_priceOf_4 : decode cX0_priceOf 4 = .ok (.aload_n 0, 1) := by decide +kernel
theorem dX0_priceOf_5 : decode cX0_priceOf 5 = .ok (.aload_n 1, 1) := by decide +kernel
theorem dX0_priceOf_6 : decode cX0_priceOf 6 = .ok (.invokevirtual 115, 3) := by decide +kernel
theorem dX0_priceOf_9 : decode cX0_priceOf 9 = .ok (.imul, 1) := by decide +kernel
theorem dX0_priceOf_10 : decode cX0_priceOf 10 = .ok (.istore_n 2, 1) := by decide +kernel
theorem dX0_priceOf_11 : decode cX0_priceOf 11 = .ok (.iload_n 2, 1) := by decide +kernel
theorem dX0_priceOf_12 : decode cX0_priceOf 12 = .ok (.iload_n 2, 1) := by decide +kernel
theorem dX0_priceOf_13 : decode cX0_priceOf 13 = .ok (.aload_n 1, 1) := by decide +kernel
theorem dX0_priceOf_14 : decode cX0_priceOf 14 = .ok (.getfield 112, 3) := by decide +kernel
theorem dX0_priceOf_17 : decode cX0_priceOf 17 = .ok (.invokestatic 119, 3) := by decide +kernel
theorem dX0_priceOf_20 : decode cX0_priceOf 20 = .ok (.imul, 1) := by decide +kernel
theorem dX0_priceOf_21 : decode cX0_priceOf 21 = .ok (.bipush 100, 2) := by decide +kernel
theorem dX0_priceOf_23 : decode cX0_priceOf 23 = .ok (.idiv, 1) := by decide +kernel
theorem dX0_priceOf_24 : decode cX0_priceOf 24 = .ok (.isub, 1) := by decide +kernel
theorem dX0_priceOf_25 : decode cX0_priceOf 25 = .ok (.ireturn, 1) := by decide +kernel
theorem dX0_priceOfSession_0 : decode cX0_priceOfSession 0 = .ok (.aload_n 1, 1) := by decide +kernel
theorem dX0_priceOfSession_1 : decode cX0_priceOfSession 1 = .ok (.getfield 122, 3) := by decide +kernel
theorem dX0_priceOfSession_4 : decode cX0_priceOfSession 4 = .ok (.aload_n 1, 1) := by decide +kernel
theorem dX0_priceOfSession_5 : decode cX0_priceOfSession 5 = .ok (.getfield 125, 3) := by decide +kernel
theorem dX0_priceOfSession_8 : decode cX0_priceOfSession 8 = .ok (.isub, 1) := by decide +kernel
theorem dX0_priceOfSession_9 : decode cX0_priceOfSession 9 = .ok (.istore_n 2, 1) := by decide +kernel
theorem dX0_priceOfSession_10 : decode cX0_priceOfSession 10 = .ok (.iconst 0, 1) := by decide +kernel
theorem dX0_priceOfSession_11 : decode cX0_priceOfSession 11 = .ok (.aload_n 1, 1) := by decide +kernel
theorem dX0_priceOfSession_12 : decode cX0_priceOfSession 12 = .ok (.getfield 122, 3) := by decide +kernel
theorem dX0_priceOfSession_15 : decode cX0_priceOfSession 15 = .ok (.aload_n 1, 1) := by decide +kernel
theorem dX0_priceOfSession_16 : decode cX0_priceOfSession 16 = .ok (.getfield 125, 3) := by decide +kernel
theorem dX0_priceOfSession_19 : decode cX0_priceOfSession 19 = .ok (.bipush 18, 2) := by decide +kernel
theorem dX0_priceOfSession_21 : decode cX0_priceOfSession 21 = .ok (.invokestatic 128, 3) := by decide +kernel
theorem dX0_priceOfSession_24 : decode cX0_priceOfSession 24 = .ok (.isub, 1) := by decide +kernel
theorem dX0_priceOfSession_25 : decode cX0_priceOfSession 25 = .ok (.invokestatic 128, 3) := by decide +kernel
theorem dX0_priceOfSession_28 : decode cX0_priceOfSession 28 = .ok (.istore_n 3, 1) := by decide +kernel
theorem dX0_priceOfSession_29 : decode cX0_priceOfSession 29 = .ok (.iconst 0, 1) := by decide +kernel
theorem dX0_priceOfSession_30 : decode cX0_priceOfSession 30 = .ok (.istore 4, 2) := by decide +kernel
theorem dX0_priceOfSession_32 : decode cX0_priceOfSession 32 = .ok (.iconst 0, 1) := by decide +kernel
theorem dX0_priceOfSession_33 : decode cX0_priceOfSession 33 = .ok (.istore 5, 2) := by decide +kernel
theorem dX0_priceOfSession_35 : decode cX0_priceOfSession 35 = .ok (.iload 5, 2) := by decide +kernel
theorem dX0_priceOfSession_37 : decode cX0_priceOfSession 37 = .ok (.iconst 3, 1) := by decide +kernel
theorem dX0_priceOfSession_38 : decode cX0_priceOfSession 38 = .ok (.if_icmp .ge 60, 3) := by decide +kernel
theorem dX0_priceOfSession_41 : decode cX0_priceOfSession 41 = .ok (.aload_n 1, 1) := by decide +kernel
theorem dX0_priceOfSession_42 : decode cX0_priceOfSession 42 = .ok (.getfield 134, 3) := by decide +kernel
theorem dX0_priceOfSession_45 : decode cX0_priceOfSession 45 = .ok (.iload 5, 2) := by decide +kernel
theorem dX0_priceOfSession_47 : decode cX0_priceOfSession 47 = .ok (.ishr, 1) := by decide +kernel
theorem dX0_priceOfSession_48 : decode cX0_priceOfSession 48 = .ok (.iconst 1, 1) := by decide +kernel
theorem dX0_priceOfSession_49 : decode cX0_priceOfSession 49 = .ok (.iand, 1) := by decide +kernel
theorem dX0_priceOfSession_50 : decode cX0_priceOfSession 50 = .ok (.iconst 1, 1) := by decide +kernel
theorem dX0_priceOfSession_51 : decode cX0_priceOfSession 51 = .ok (.if_icmp .ne 41, 3) := by decide +kernel
theorem dX0_priceOfSession_54 : decode cX0_priceOfSession 54 = .ok (.aload_n 0, 1) := by decide +kernel
theorem dX0_priceOfSession_55 : decode cX0_priceOfSession 55 = .ok (.getfield 18, 3) := by decide +kernel
theorem dX0_priceOfSession_58 : decode cX0_priceOfSession 58 = .ok (.iload 5, 2) := by decide +kernel
theorem dX0_priceOfSession_60 : decode cX0_priceOfSession 60 = .ok (.iaload, 1) := by decide +kernel
theorem dX0_priceOfSession_61 : decode cX0_priceOfSession 61 = .ok (.aload_n 0, 1) := by decide +kernel
theorem dX0_priceOfSession_62 : decode cX0_priceOfSession 62 = .ok (.getfield 18, 3) := by decide +kernel
theorem dX0_priceOfSession_65 : decode cX0_priceOfSession 65 = .ok (.iconst 3, 1) := by decide +kernel
theorem dX0_priceOfSession_66 : decode cX0_priceOfSession 66 = .ok (.iaload, 1) := by decide +kernel
theorem dX0_priceOfSession_67 : decode cX0_priceOfSession 67 = .ok (.imul, 1) := by decide +kernel
theorem dX0_priceOfSession_68 : decode cX0_priceOfSession 68 = .ok (.bipush 100, 2) := by decide +kernel
theorem dX0_priceOfSession_70 : decode cX0_priceOfSession 70 = .ok (.idiv, 1) := by decide +kernel
theorem dX0_priceOfSession_71 : decode cX0_priceOfSession 71 = .ok (.istore 6, 2) := by decide +kernel
theorem dX0_priceOfSession_73 : decode cX0_priceOfSession 73 = .ok (.iload 4, 2) := by decide +kernel
theorem dX0_priceOfSession_75 : decode cX0_priceOfSession 75 = .ok (.aload_n 0, 1) := by decide +kernel
theorem dX0_priceOfSession_76 : decode cX0_priceOfSession 76 = .ok (.getfield 18, 3) := by decide +kernel
theorem dX0_priceOfSession_79 : decode cX0_priceOfSession 79 = .ok (.iload 5, 2) := by decide +kernel
theorem dX0_priceOfSession_81 : decode cX0_priceOfSession 81 = .ok (.iaload, 1) := by decide +kernel
theorem dX0_priceOfSession_82 : decode cX0_priceOfSession 82 = .ok (.iload_n 2, 1) := by decide +kernel
theorem dX0_priceOfSession_83 : decode cX0_priceOfSession 83 = .ok (.imul, 1) := by decide +kernel
theorem dX0_priceOfSession_84 : decode cX0_priceOfSession 84 = .ok (.iload 6, 2) := by decide +kernel
theorem dX0_priceOfSession_86 : decode cX0_priceOfSession 86 = .ok (.iload_n 3, 1) := by decide +kernel
theorem dX0_priceOfSession_87 : decode cX0_priceOfSession 87 = .ok (.imul, 1) := by decide +kernel
theorem dX0_priceOfSession_88 : decode cX0_priceOfSession 88 = .ok (.iadd, 1) := by decide +kernel
theorem dX0_priceOfSession_89 : decode cX0_priceOfSession 89 = .ok (.iadd, 1) := by decide +kernel
theorem dX0_priceOfSession_90 : decode cX0_priceOfSession 90 = .ok (.istore 4, 2) := by decide +kernel
theorem dX0_priceOfSession_92 : decode cX0_priceOfSession 92 = .ok (.iinc 5 1, 3) := by decide +kernel
theorem dX0_priceOfSession_95 : decode cX0_priceOfSession 95 = .ok (.goto (-60), 3) := by decide +kernel
theorem dX0_priceOfSession_98 : decode cX0_priceOfSession 98 = .ok (.iload 4, 2) := by decide +kernel
theorem dX0_priceOfSession_100 : decode cX0_priceOfSession 100 = .ok (.ireturn, 1) := by decide +kernel
set_option maxRecDepth 20000 in
theorem ggX0_blockedHours_X1_isOn : GoodIn wsX0_blockedHours wsX1_isOn := goodIn_r _ [10, 11, 12, 13, 9, 14, 15, 16, 17, 18, 38, 39, 40, 41, 42, 43, 44, 45, 46, 47, 48, 49, 50, 51, 52] (by decide +kernel) (by decide +kernel)
set_option maxRecDepth 20000 in
theorem gX0_blockedHours_X1_isOn : GoodIn wsX0_blockedHours (wsV RX0 138 RX1 yX1_isOn wsX1_isOn) := goodIn_app (goodIn_of _ (by decide +kernel)) ggX0_blockedHours_X1_isOn
set_option maxRecDepth 20000 in
theorem ggX0_blockedHours_X7_hoursMask : GoodIn wsX0_blockedHours wsX7_hoursMask := goodIn_r _ [21, 22, 23, 24, 25, 26, 27, 28] (by decide +kernel) (by decide +kernel)
set_option maxRecDepth 20000 in
theorem gX0_blockedHours_X7_hoursMask_n144 : GoodIn wsX0_blockedHours (wsX7_hoursMask) := ggX0_blockedHours_X7_hoursMask
theorem dX0_blockedHours_0 : decode cX0_blockedHours 0 = .ok (.iconst 0, 1) := by decide +kernel
theorem dX0_blockedHours_1 : decode cX0_blockedHours 1 = .ok (.istore 5, 2) := by decide +kernel
theorem dX0_blockedHours_3 : decode cX0_blockedHours 3 = .ok (.aload_n 0, 1) := by decide +kernel
theorem dX0_blockedHours_4 : decode cX0_blockedHours 4 = .ok (.getfield 34, 3) := by decide +kernel
theorem dX0_blockedHours_7 : decode cX0_blockedHours 7 = .ok (.astore 6, 2) := by decide +kernel
theorem dX0_blockedHours_9 : decode cX0_blockedHours 9 = .ok (.aload 6, 2) := by decide +kernel
theorem dX0_blockedHours_11 : decode cX0_blockedHours 11 = .ok (.arraylength, 1) := by decide +kernel
theorem dX0_blockedHours_12 : decode cX0_blockedHours 12 = .ok (.istore 7, 2) := by decide +kernel
theorem dX0_blockedHours_14 : decode cX0_blockedHours 14 = .ok (.iconst 0, 1) := by decide +kernel
theorem dX0_blockedHours_15 : decode cX0_blockedHours 15 = .ok (.istore 8, 2) := by decide +kernel
theorem dX0_blockedHours_17 : decode cX0_blockedHours 17 = .ok (.iload 8, 2) := by decide +kernel
theorem dX0_blockedHours_19 : decode cX0_blockedHours 19 = .ok (.iload 7, 2) := by decide +kernel
theorem dX0_blockedHours_21 : decode cX0_blockedHours 21 = .ok (.if_icmp .ge 76, 3) := by decide +kernel
theorem dX0_blockedHours_24 : decode cX0_blockedHours 24 = .ok (.aload 6, 2) := by decide +kernel
theorem dX0_blockedHours_26 : decode cX0_blockedHours 26 = .ok (.iload 8, 2) := by decide +kernel
theorem dX0_blockedHours_28 : decode cX0_blockedHours 28 = .ok (.aaload, 1) := by decide +kernel
theorem dX0_blockedHours_29 : decode cX0_blockedHours 29 = .ok (.astore 9, 2) := by decide +kernel
theorem dX0_blockedHours_31 : decode cX0_blockedHours 31 = .ok (.aload 9, 2) := by decide +kernel
theorem dX0_blockedHours_33 : decode cX0_blockedHours 33 = .ok (.getfield 137, 3) := by decide +kernel
theorem dX0_blockedHours_36 : decode cX0_blockedHours 36 = .ok (.iload_n 2, 1) := by decide +kernel
theorem dX0_blockedHours_37 : decode cX0_blockedHours 37 = .ok (.iand, 1) := by decide +kernel
theorem dX0_blockedHours_38 : decode cX0_blockedHours 38 = .ok (.ifCond .eq 53, 3) := by decide +kernel
theorem dX0_blockedHours_41 : decode cX0_blockedHours 41 = .ok (.aload 9, 2) := by decide +kernel
theorem dX0_blockedHours_43 : decode cX0_blockedHours 43 = .ok (.iload_n 1, 1) := by decide +kernel
theorem dX0_blockedHours_44 : decode cX0_blockedHours 44 = .ok (.invokevirtual 138, 3) := by decide +kernel
theorem dX0_blockedHours_47 : decode cX0_blockedHours 47 = .ok (.ifCond .eq 44, 3) := by decide +kernel
theorem dX0_blockedHours_50 : decode cX0_blockedHours 50 = .ok (.aload 9, 2) := by decide +kernel
theorem dX0_blockedHours_52 : decode cX0_blockedHours 52 = .ok (.getfield 78, 3) := by decide +kernel
theorem dX0_blockedHours_55 : decode cX0_blockedHours 55 = .ok (.iload_n 3, 1) := by decide +kernel
theorem dX0_blockedHours_56 : decode cX0_blockedHours 56 = .ok (.if_icmp .ne 7, 3) := by decide +kernel
theorem dX0_blockedHours_59 : decode cX0_blockedHours 59 = .ok (.iconst 0, 1) := by decide +kernel
theorem dX0_blockedHours_60 : decode cX0_blockedHours 60 = .ok (.goto 5, 3) := by decide +kernel
theorem dX0_blockedHours_63 : decode cX0_blockedHours 63 = .ok (.iload 4, 2) := by decide +kernel
theorem dX0_blockedHours_65 : decode cX0_blockedHours 65 = .ok (.istore 10, 2) := by decide +kernel
theorem dX0_blockedHours_67 : decode cX0_blockedHours 67 = .ok (.iload 5, 2) := by decide +kernel
theorem dX0_blockedHours_69 : decode cX0_blockedHours 69 = .ok (.aload 9, 2) := by decide +kernel
theorem dX0_blockedHours_71 : decode cX0_blockedHours 71 = .ok (.getfield 142, 3) := by decide +kernel
theorem dX0_blockedHours_74 : decode cX0_blockedHours 74 = .ok (.iload 10, 2) := by decide +kernel
theorem dX0_blockedHours_76 : decode cX0_blockedHours 76 = .ok (.isub, 1) := by decide +kernel
theorem dX0_blockedHours_77 : decode cX0_blockedHours 77 = .ok (.aload 9, 2) := by decide +kernel
theorem dX0_blockedHours_79 : decode cX0_blockedHours 79 = .ok (.getfield 143, 3) := by decide +kernel
theorem dX0_blockedHours_82 : decode cX0_blockedHours 82 = .ok (.iload 10, 2) := by decide +kernel
theorem dX0_blockedHours_84 : decode cX0_blockedHours 84 = .ok (.iadd, 1) := by decide +kernel
theorem dX0_blockedHours_85 : decode cX0_blockedHours 85 = .ok (.invokestatic 144, 3) := by decide +kernel
theorem dX0_blockedHours_88 : decode cX0_blockedHours 88 = .ok (.ior, 1) := by decide +kernel
theorem dX0_blockedHours_89 : decode cX0_blockedHours 89 = .ok (.istore 5, 2) := by decide +kernel
theorem dX0_blockedHours_91 : decode cX0_blockedHours 91 = .ok (.iinc 8 1, 3) := by decide +kernel
theorem dX0_blockedHours_94 : decode cX0_blockedHours 94 = .ok (.goto (-77), 3) := by decide +kernel
theorem dX0_blockedHours_97 : decode cX0_blockedHours 97 = .ok (.iload 5, 2) := by decide +kernel
theorem dX0_blockedHours_99 : decode cX0_blockedHours 99 = .ok (.ireturn, 1) := by decide +kernel
set_option maxRecDepth 20000 in
theorem ggX0_clashOf_X0_clashOn : GoodIn wsX0_clashOf wsX0_clashOn := goodIn_r _ [8, 9, 10, 11, 12, 13, 14, 15, 16, 17, 18, 19, 20, 21, 22, 23, 24, 25, 7, 26, 27, 28, 29, 30, 31, 32, 33, 34, 35, 36, 37, 38, 39, 40, 41, 42, 43, 44, 45, 46, 47, 55, 56, 57, 58, 59, 60, 61, 62, 63, 64, 65, 66, 67, 68, 69, 70, 71, 72, 73, 74, 75, 76, 77, 78, 48, 49, 50, 51, 52, 53, 54] (by decide +kernel) (by decide +kernel)
set_option maxRecDepth 20000 in
theorem gX0_clashOf_X0_clashOn : GoodIn wsX0_clashOf (wsV RX0 153 RX0 yX0_clashOn wsX0_clashOn) := goodIn_app (goodIn_of _ (by decide +kernel)) ggX0_clashOf_X0_clashOn
theorem dX0_clashOf_0 : decode cX0_clashOf 0 = .ok (.iconst 0, 1) := by decide +kernel
theorem dX0_clashOf_1 : decode cX0_clashOf 1 = .ok (.istore_n 2, 1) := by decide +kernel
theorem dX0_clashOf_2 : decode cX0_clashOf 2 = .ok (.iload_n 2, 1) := by decide +kernel
theorem dX0_clashOf_3 : decode cX0_clashOf 3 = .ok (.aload_n 1, 1) := by decide +kernel
theorem dX0_clashOf_4 : decode cX0_clashOf 4 = .ok (.getfield 112, 3) := by decide +kernel
theorem dX0_clashOf_7 : decode cX0_clashOf 7 = .ok (.if_icmp .ge 33, 3) := by decide +kernel
theorem dX0_clashOf_10 : decode cX0_clashOf 10 = .ok (.aload_n 0, 1) := by decide +kernel
theorem dX0_clashOf_11 : decode cX0_clashOf 11 = .ok (.aload_n 1, 1) := by decide +kernel
theorem dX0_clashOf_12 : decode cX0_clashOf 12 = .ok (.getfield 147, 3) := by decide +kernel
theorem dX0_clashOf_15 : decode cX0_clashOf 15 = .ok (.iload_n 2, 1) := by decide +kernel
theorem dX0_clashOf_16 : decode cX0_clashOf 16 = .ok (.aload_n 1, 1) := by decide +kernel
theorem dX0_clashOf_17 : decode cX0_clashOf 17 = .ok (.getfield 150, 3) := by decide +kernel
theorem dX0_clashOf_20 : decode cX0_clashOf 20 = .ok (.imul, 1) := by decide +kernel
theorem dX0_clashOf_21 : decode cX0_clashOf 21 = .ok (.iadd, 1) := by decide +kernel
theorem dX0_clashOf_22 : decode cX0_clashOf 22 = .ok (.aload_n 1, 1) := by decide +kernel
theorem dX0_clashOf_23 : decode cX0_clashOf 23 = .ok (.invokevirtual 153, 3) := by decide +kernel
theorem dX0_clashOf_26 : decode cX0_clashOf 26 = .ok (.istore_n 3, 1) := by decide +kernel
theorem dX0_clashOf_27 : decode cX0_clashOf 27 = .ok (.iload_n 3, 1) := by decide +kernel
theorem dX0_clashOf_28 : decode cX0_clashOf 28 = .ok (.iconst (-1), 1) := by decide +kernel
theorem dX0_clashOf_29 : decode cX0_clashOf 29 = .ok (.if_icmp .eq 5, 3) := by decide +kernel
theorem dX0_clashOf_32 : decode cX0_clashOf 32 = .ok (.iload_n 3, 1) := by decide +kernel
theorem dX0_clashOf_33 : decode cX0_clashOf 33 = .ok (.ireturn, 1) := by decide +kernel
theorem dX0_clashOf_34 : decode cX0_clashOf 34 = .ok (.iinc 2 1, 3) := by decide +kernel
theorem dX0_clashOf_37 : decode cX0_clashOf 37 = .ok (.goto (-35), 3) := by decide +kernel
theorem dX0_clashOf_40 : decode cX0_clashOf 40 = .ok (.iconst (-1), 1) := by decide +kernel
theorem dX0_clashOf_41 : decode cX0_clashOf 41 = .ok (.ireturn, 1) := by decide +kernel
set_option maxRecDepth 20000 in
theorem ggX0_clashOn_X1_isOn : GoodIn wsX0_clashOn wsX1_isOn := goodIn_r _ [6, 7, 8, 9, 5, 10, 11, 12, 13, 14, 50, 51, 52, 53, 54, 55, 56, 57, 58, 59, 60, 61, 62, 63, 64] (by decide +kernel) (by decide +kernel)
set_option maxRecDepth 20000 in
theorem gX0_clashOn_X1_isOn : GoodIn wsX0_clashOn (wsV RX0 138 RX1 yX1_isOn wsX1_isOn) := goodIn_app (goodIn_of _ (by decide +kernel)) ggX0_clashOn_X1_isOn
set_option maxRecDepth 20000 in
theorem ggX0_clashOn_X0_standsAgainst : GoodIn wsX0_clashOn wsX0_standsAgainst := goodIn_r _ [19, 20, 21, 22, 23, 24, 25, 26, 27, 28, 50, 51, 52, 53, 54, 55, 56, 57, 58, 59, 60, 61, 62, 63, 64, 65, 66, 67, 68, 69, 70, 71, 41, 42, 43, 44, 45, 46, 47, 48, 49] (by decide +kernel) (by decide +kernel)
set_option maxRecDepth 20000 in
theorem gX0_clashOn_X0_standsAgainst : GoodIn wsX0_clashOn (wsV RX0 157 RX0 yX0_standsAgainst wsX0_standsAgainst) := goodIn_app (goodIn_of _ (by decide +kernel)) ggX0_clashOn_X0_standsAgainst
set_option maxRecDepth 20000 in
theorem ggX0_clashOn_X1_isAheadOnDay : GoodIn wsX0_clashOn wsX1_isAheadOnDay := goodIn_r _ [32, 33, 34, 50, 51, 52, 53, 54, 55, 56, 57, 58, 59, 60, 61, 62, 63, 64] (by decide +kernel) (by decide +kernel)
set_option maxRecDepth 20000 in
theorem gX0_clashOn_X1_isAheadOnDay : GoodIn wsX0_clashOn (wsV RX0 161 RX1 yX1_isAheadOnDay wsX1_isAheadOnDay) := goodIn_app (goodIn_of _ (by decide +kernel)) ggX0_clashOn_X1_isAheadOnDay
set_option maxRecDepth 20000 in
theorem ggX0_clashOn_X0_sessionNumber : GoodIn wsX0_clashOn wsX0_sessionNumber := goodIn_r _ [38, 39, 40, 8, 9, 5, 10, 11, 12, 13, 14, 50, 51, 52, 53, 54, 55, 56, 57, 58, 59, 60, 61, 62, 63, 64] (by decide +kernel) (by decide +kernel)
set_option maxRecDepth 20000 in
theorem gX0_clashOn_X0_sessionNumber : GoodIn wsX0_clashOn (wsV RX0 165 RX0 yX0_sessionNumber wsX0_sessionNumber) := goodIn_app (goodIn_of _ (by decide +kernel)) ggX0_clashOn_X0_sessionNumber
theorem dX0_clashOn_0 : decode cX0_clashOn 0 = .ok (.aconst_null, 1) := by decide +kernel
theorem dX0_clashOn_1 : decode cX0_clashOn 1 = .ok (.astore_n 3, 1) := by decide +kernel
theorem dX0_clashOn_2 : decode cX0_clashOn 2 = .ok (.aload_n 0, 1) := by decide +kernel
theorem dX0_clashOn_3 : decode cX0_clashOn 3 = .ok (.getfield 34, 3) := by decide +kernel
theorem dX0_clashOn_6 : decode cX0_clashOn 6 = .ok (.astore 4, 2) := by decide +kernel
theorem dX0_clashOn_8 : decode cX0_clashOn 8 = .ok (.aload 4, 2) := by decide +kernel
theorem dX0_clashOn_10 : decode cX0_clashOn 10 = .ok (.arraylength, 1) := by decide +kernel
theorem dX0_clashOn_11 : decode cX0_clashOn 11 = .ok (.istore 5, 2) := by decide +kernel
theorem dX0_clashOn_13 : decode cX0_clashOn 13 = .ok (.iconst 0, 1) := by decide +kernel
theorem dX0_clashOn_14 : decode cX0_clashOn 14 = .ok (.istore 6, 2) := by decide +kernel
theorem dX0_clashOn_16 : decode cX0_clashOn 16 = .ok (.iload 6, 2) := by decide +kernel
theorem dX0_clashOn_18 : decode cX0_clashOn 18 = .ok (.iload 5, 2) := by decide +kernel
theorem dX0_clashOn_20 : decode cX0_clashOn 20 = .ok (.if_icmp .ge 51, 3) := by decide +kernel
theorem dX0_clashOn_23 : decode cX0_clashOn 23 = .ok (.aload 4, 2) := by decide +kernel
theorem dX0_clashOn_25 : decode cX0_clashOn 25 = .ok (.iload 6, 2) := by decide +kernel
theorem dX0_clashOn_27 : decode cX0_clashOn 27 = .ok (.aaload, 1) := by decide +kernel
theorem dX0_clashOn_28 : decode cX0_clashOn 28 = .ok (.astore 7, 2) := by decide +kernel
theorem dX0_clashOn_30 : decode cX0_clashOn 30 = .ok (.aload 7, 2) := by decide +kernel
theorem dX0_clashOn_32 : decode cX0_clashOn 32 = .ok (.iload_n 1, 1) := by decide +kernel
theorem dX0_clashOn_33 : decode cX0_clashOn 33 = .ok (.invokevirtual 138, 3) := by decide +kernel
theorem dX0_clashOn_36 : decode cX0_clashOn 36 = .ok (.ifCond .eq 29, 3) := by decide +kernel
theorem dX0_clashOn_39 : decode cX0_clashOn 39 = .ok (.aload_n 0, 1) := by decide +kernel
theorem dX0_clashOn_40 : decode cX0_clashOn 40 = .ok (.aload 7, 2) := by decide +kernel
theorem dX0_clashOn_42 : decode cX0_clashOn 42 = .ok (.aload_n 2, 1) := by decide +kernel
theorem dX0_clashOn_43 : decode cX0_clashOn 43 = .ok (.invokevirtual 157, 3) := by decide +kernel
theorem dX0_clashOn_46 : decode cX0_clashOn 46 = .ok (.ifCond .eq 19, 3) := by decide +kernel
theorem dX0_clashOn_49 : decode cX0_clashOn 49 = .ok (.aload_n 3, 1) := by decide +kernel
theorem dX0_clashOn_50 : decode cX0_clashOn 50 = .ok (.ifnull 12, 3) := by decide +kernel
theorem dX0_clashOn_53 : decode cX0_clashOn 53 = .ok (.aload 7, 2) := by decide +kernel
theorem dX0_clashOn_55 : decode cX0_clashOn 55 = .ok (.aload_n 3, 1) := by decide +kernel
theorem dX0_clashOn_56 : decode cX0_clashOn 56 = .ok (.invokevirtual 161, 3) := by decide +kernel
theorem dX0_clashOn_59 : decode cX0_clashOn 59 = .ok (.ifCond .eq 6, 3) := by decide +kernel
theorem dX0_clashOn_62 : decode cX0_clashOn 62 = .ok (.aload 7, 2) := by decide +kernel
theorem dX0_clashOn_64 : decode cX0_clashOn 64 = .ok (.astore_n 3, 1) := by decide +kernel
theorem dX0_clashOn_65 : decode cX0_clashOn 65 = .ok (.iinc 6 1, 3) := by decide +kernel
theorem dX0_clashOn_68 : decode cX0_clashOn 68 = .ok (.goto (-52), 3) := by decide +kernel
theorem dX0_clashOn_71 : decode cX0_clashOn 71 = .ok (.aload_n 3, 1) := by decide +kernel
theorem dX0_clashOn_72 : decode cX0_clashOn 72 = .ok (.ifnonnull 7, 3) := by decide +kernel
theorem dX0_clashOn_75 : decode cX0_clashOn 75 = .ok (.iconst (-1), 1) := by decide +kernel
theorem dX0_clashOn_76 : decode cX0_clashOn 76 = .ok (.goto 9, 3) := by decide +kernel
theorem dX0_clashOn_79 : decode cX0_clashOn 79 = .ok (.aload_n 0, 1) := by decide +kernel
theorem dX0_clashOn_80 : decode cX0_clashOn 80 = .ok (.aload_n 3, 1) := by decide +kernel
theorem dX0_clashOn_81 : decode cX0_clashOn 81 = .ok (.iload_n 1, 1) := by decide +kernel
theorem dX0_clashOn_82 : decode cX0_clashOn 82 = .ok (.invokevirtual 165, 3) := by decide +kernel
theorem dX0_clashOn_85 : decode cX0_clashOn 85 = .ok (.ireturn, 1) := by decide +kernel
theorem dX0_standsAgainst_0 : decode cX0_standsAgainst 0 = .ok (.aload_n 1, 1) := by decide +kernel
theorem dX0_standsAgainst_1 : decode cX0_standsAgainst 1 = .ok (.getfield 78, 3) := by decide +kernel
theorem dX0_standsAgainst_4 : decode cX0_standsAgainst 4 = .ok (.aload_n 2, 1) := by decide +kernel
theorem dX0_standsAgainst_5 : decode cX0_standsAgainst 5 = .ok (.getfield 169, 3) := by decide +kernel
theorem dX0_standsAgainst_8 : decode cX0_standsAgainst 8 = .ok (.if_icmp .ne 7, 3) := by decide +kernel
theorem dX0_standsAgainst_11 : decode cX0_standsAgainst 11 = .ok (.iconst 0, 1) := by decide +kernel
theorem dX0_standsAgainst_12 : decode cX0_standsAgainst 12 = .ok (.goto 9, 3) := by decide +kernel
theorem dX0_standsAgainst_15 : decode cX0_standsAgainst 15 = .ok (.aload_n 0, 1) := by decide +kernel
theorem dX0_standsAgainst_16 : decode cX0_standsAgainst 16 = .ok (.getfield 18, 3) := by decide +kernel
theorem dX0_standsAgainst_19 : decode cX0_standsAgainst 19 = .ok (.iconst 4, 1) := by decide +kernel
theorem dX0_standsAgainst_20 : decode cX0_standsAgainst 20 = .ok (.iaload, 1) := by decide +kernel
theorem dX0_standsAgainst_21 : decode cX0_standsAgainst 21 = .ok (.istore_n 3, 1) := by decide +kernel
theorem dX0_standsAgainst_22 : decode cX0_standsAgainst 22 = .ok (.aload_n 1, 1) := by decide +kernel
theorem dX0_standsAgainst_23 : decode cX0_standsAgainst 23 = .ok (.getfield 137, 3) := by decide +kernel
theorem dX0_standsAgainst_26 : decode cX0_standsAgainst 26 = .ok (.aload_n 2, 1) := by decide +kernel
theorem dX0_standsAgainst_27 : decode cX0_standsAgainst 27 = .ok (.getfield 134, 3) := by decide +kernel
theorem dX0_standsAgainst_30 : decode cX0_standsAgainst 30 = .ok (.iand, 1) := by decide +kernel
theorem dX0_standsAgainst_31 : decode cX0_standsAgainst 31 = .ok (.ifCond .eq 33, 3) := by decide +kernel
theorem dX0_standsAgainst_34 : decode cX0_standsAgainst 34 = .ok (.aload_n 2, 1) := by decide +kernel
theorem dX0_standsAgainst_35 : decode cX0_standsAgainst 35 = .ok (.getfield 125, 3) := by decide +kernel
theorem dX0_standsAgainst_38 : decode cX0_standsAgainst 38 = .ok (.aload_n 1, 1) := by decide +kernel
theorem dX0_standsAgainst_39 : decode cX0_standsAgainst 39 = .ok (.getfield 143, 3) := by decide +kernel
theorem dX0_standsAgainst_42 : decode cX0_standsAgainst 42 = .ok (.iload_n 3, 1) := by decide +kernel
theorem dX0_standsAgainst_43 : decode cX0_standsAgainst 43 = .ok (.iadd, 1) := by decide +kernel
theorem dX0_standsAgainst_44 : decode cX0_standsAgainst 44 = .ok (.if_icmp .ge 20, 3) := by decide +kernel
theorem dX0_standsAgainst_47 : decode cX0_standsAgainst 47 = .ok (.aload_n 1, 1) := by decide +kernel
theorem dX0_standsAgainst_48 : decode cX0_standsAgainst 48 = .ok (.getfield 142, 3) := by decide +kernel
theorem dX0_standsAgainst_51 : decode cX0_standsAgainst 51 = .ok (.aload_n 2, 1) := by decide +kernel
theorem dX0_standsAgainst_52 : decode cX0_standsAgainst 52 = .ok (.getfield 122, 3) := by decide +kernel
theorem dX0_standsAgainst_55 : decode cX0_standsAgainst 55 = .ok (.iload_n 3, 1) := by decide +kernel
theorem dX0_standsAgainst_56 : decode cX0_standsAgainst 56 = .ok (.iadd, 1) := by decide +kernel
theorem dX0_standsAgainst_57 : decode cX0_standsAgainst 57 = .ok (.if_icmp .ge 7, 3) := by decide +kernel
theorem dX0_standsAgainst_60 : decode cX0_standsAgainst 60 = .ok (.iconst 1, 1) := by decide +kernel
theorem dX0_standsAgainst_61 : decode cX0_standsAgainst 61 = .ok (.goto 4, 3) := by decide +kernel
theorem dX0_standsAgainst_64 : decode cX0_standsAgainst 64 = .ok (.iconst 0, 1) := by decide +kernel
theorem dX0_standsAgainst_65 : decode cX0_standsAgainst 65 = .ok (.ireturn, 1) := by decide +kernel
set_option maxRecDepth 20000 in
theorem ggX0_sessionNumber_X1_indexOn : GoodIn wsX0_sessionNumber wsX1_indexOn := goodIn_r _ [6, 7, 8, 9, 10, 11, 12, 13, 14, 15, 16, 17, 18, 19, 20, 21, 22, 23, 24, 25] (by decide +kernel) (by decide +kernel)
set_option maxRecDepth 20000 in
theorem gX0_sessionNumber_X1_indexOn : GoodIn wsX0_sessionNumber (wsV RX0 170 RX1 yX1_indexOn wsX1_indexOn) := goodIn_app (goodIn_of _ (by decide +kernel)) ggX0_sessionNumber_X1_indexOn
theorem dX0_sessionNumber_0 : decode cX0_sessionNumber 0 = .ok (.aload_n 1, 1) := by decide +kernel
theorem dX0_sessionNumber_1 : decode cX0_sessionNumber 1 = .ok (.getfield 88, 3) := by decide +kernel
theorem dX0_sessionNumber_4 : decode cX0_sessionNumber 4 = .ok (.bipush 20, 2) := by decide +kernel
theorem dX0_sessionNumber_6 : decode cX0_sessionNumber 6 = .ok (.imul, 1) := by decide +kernel
theorem dX0_sessionNumber_7 : decode cX0_sessionNumber 7 = .ok (.aload_n 1, 1) := by decide +kernel
theorem dX0_sessionNumber_8 : decode cX0_sessionNumber 8 = .ok (.iload_n 2, 1) := by decide +kernel
theorem dX0_sessionNumber_9 : decode cX0_sessionNumber 9 = .ok (.invokevirtual 170, 3) := by decide +kernel
theorem dX0_sessionNumber_12 : decode cX0_sessionNumber 12 = .ok (.iadd, 1) := by decide +kernel
theorem dX0_sessionNumber_13 : decode cX0_sessionNumber 13 = .ok (.ireturn, 1) := by decide +kernel
set_option maxRecDepth 20000 in
theorem ggX0_sessionsOn_X1_isOn : GoodIn wsX0_sessionsOn wsX1_isOn := goodIn_r _ [6, 7, 8, 9, 5, 10, 11, 12, 13, 14, 24, 25, 26, 27, 28, 29, 30, 31, 32, 33, 34, 35, 36, 37, 38] (by decide +kernel) (by decide +kernel)
set_option maxRecDepth 20000 in
theorem gX0_sessionsOn_X1_isOn : GoodIn wsX0_sessionsOn (wsV RX0 138 RX1 yX1_isOn wsX1_isOn) := goodIn_app (goodIn_of _ (by decide +kernel)) ggX0_sessionsOn_X1_isOn
theorem dX0_sessionsOn_0 : decode cX0_sessionsOn 0 = .ok (.iconst 0, 1) := by decide +kernel
theorem dX0_sessionsOn_1 : decode cX0_sessionsOn 1 = .ok (.istore_n 2, 1) := by decide +kernel
theorem dX0_sessionsOn_2 : decode cX0_sessionsOn 2 = .ok (.aload_n 0, 1) := by decide +kernel
theorem dX0_sessionsOn_3 : decode cX0_sessionsOn 3 = .ok (.getfield 34, 3) := by decide +kernel
theorem dX0_sessionsOn_6 : decode cX0_sessionsOn 6 = .ok (.astore_n 3, 1) := by decide +kernel
theorem dX0_sessionsOn_7 : decode cX0_sessionsOn 7 = .ok (.aload_n 3, 1) := by decide +kernel
theorem dX0_sessionsOn_8 : decode cX0_sessionsOn 8 = .ok (.arraylength, 1) := by decide +kernel
theorem dX0_sessionsOn_9 : decode cX0_sessionsOn 9 = .ok (.istore 4, 2) := by decide +kernel
theorem dX0_sessionsOn_11 : decode cX0_sessionsOn 11 = .ok (.iconst 0, 1) := by decide +kernel
theorem dX0_sessionsOn_12 : decode cX0_sessionsOn 12 = .ok (.istore 5, 2) := by decide +kernel
theorem dX0_sessionsOn_14 : decode cX0_sessionsOn 14 = .ok (.iload 5, 2) := by decide +kernel
theorem dX0_sessionsOn_16 : decode cX0_sessionsOn 16 = .ok (.iload 4, 2) := by decide +kernel
theorem dX0_sessionsOn_18 : decode cX0_sessionsOn 18 = .ok (.if_icmp .ge 32, 3) := by decide +kernel
theorem dX0_sessionsOn_21 : decode cX0_sessionsOn 21 = .ok (.aload_n 3, 1) := by decide +kernel
theorem dX0_sessionsOn_22 : decode cX0_sessionsOn 22 = .ok (.iload 5, 2) := by decide +kernel
theorem dX0_sessionsOn_24 : decode cX0_sessionsOn 24 = .ok (.aaload, 1) := by decide +kernel
theorem dX0_sessionsOn_25 : decode cX0_sessionsOn 25 = .ok (.astore 6, 2) := by decide +kernel
theorem dX0_sessionsOn_27 : decode cX0_sessionsOn 27 = .ok (.iload_n 2, 1) := by decide +kernel
theorem dX0_sessionsOn_28 : decode cX0_sessionsOn 28 = .ok (.aload 6, 2) := by decide +kernel
theorem dX0_sessionsOn_30 : decode cX0_sessionsOn 30 = .ok (.iload_n 1, 1) := by decide +kernel
theorem dX0_sessionsOn_31 : decode cX0_sessionsOn 31 = .ok (.invokevirtual 138, 3) := by decide +kernel
theorem dX0_sessionsOn_34 : decode cX0_sessionsOn 34 = .ok (.ifCond .eq 7, 3) := by decide +kernel
theorem dX0_sessionsOn_37 : decode cX0_sessionsOn 37 = .ok (.iconst 1, 1) := by decide +kernel
theorem dX0_sessionsOn_38 : decode cX0_sessionsOn 38 = .ok (.goto 4, 3) := by decide +kernel
theorem dX0_sessionsOn_41 : decode cX0_sessionsOn 41 = .ok (.iconst 0, 1) := by decide +kernel
theorem dX0_sessionsOn_42 : decode cX0_sessionsOn 42 = .ok (.iadd, 1) := by decide +kernel
theorem dX0_sessionsOn_43 : decode cX0_sessionsOn 43 = .ok (.istore_n 2, 1) := by decide +kernel
theorem dX0_sessionsOn_44 : decode cX0_sessionsOn 44 = .ok (.iinc 5 1, 3) := by decide +kernel
theorem dX0_sessionsOn_47 : decode cX0_sessionsOn 47 = .ok (.goto (-33), 3) := by decide +kernel
theorem dX0_sessionsOn_50 : decode cX0_sessionsOn 50 = .ok (.iload_n 2, 1) := by decide +kernel
theorem dX0_sessionsOn_51 : decode cX0_sessionsOn 51 = .ok (.ireturn, 1) := by decide +kernel
set_option maxRecDepth 20000 in
theorem ggX0_sessionInOrder_X1_isOn : GoodIn wsX0_sessionInOrder wsX1_isOn := goodIn_r _ [7, 8, 9, 10, 6, 11, 12, 13, 14, 15, 42, 43, 44, 45, 46, 47, 48, 49, 50, 51, 52, 53, 54, 55, 56] (by decide +kernel) (by decide +kernel)
set_option maxRecDepth 20000 in
theorem gX0_sessionInOrder_X1_isOn : GoodIn wsX0_sessionInOrder (wsV RX0 138 RX1 yX1_isOn wsX1_isOn) := goodIn_app (goodIn_of _ (by decide +kernel)) ggX0_sessionInOrder_X1_isOn
set_option maxRecDepth 20000 in
theorem ggX0_sessionInOrder_X0_aheadOnDay : GoodIn wsX0_sessionInOrder wsX0_aheadOnDay := goodIn_r _ [20, 1, 3, 4, 5, 6, 7, 8, 9, 10, 11, 12, 13, 14, 15, 21, 22, 23, 24, 25, 26, 33, 34, 35, 36, 37, 38, 39, 40, 41, 42, 43, 44, 45, 46, 47, 48, 49, 50, 51, 52, 53, 54, 55, 56] (by decide +kernel) (by decide +kernel)
set_option maxRecDepth 20000 in
theorem gX0_sessionInOrder_X0_aheadOnDay : GoodIn wsX0_sessionInOrder (wsV RX0 173 RX0 yX0_aheadOnDay wsX0_aheadOnDay) := goodIn_app (goodIn_of _ (by decide +kernel)) ggX0_sessionInOrder_X0_aheadOnDay
set_option maxRecDepth 20000 in
theorem ggX0_sessionInOrder_X0_sessionNumber : GoodIn wsX0_sessionInOrder wsX0_sessionNumber := goodIn_r _ [30, 31, 32, 9, 10, 6, 11, 12, 13, 14, 15, 42, 43, 44, 45, 46, 47, 48, 49, 50, 51, 52, 53, 54, 55, 56] (by decide +kernel) (by decide +kernel)
set_option maxRecDepth 20000 in
theorem gX0_sessionInOrder_X0_sessionNumber : GoodIn wsX0_sessionInOrder (wsV RX0 165 RX0 yX0_sessionNumber wsX0_sessionNumber) := goodIn_app (goodIn_of _ (by decide +kernel)) ggX0_sessionInOrder_X0_sessionNumber
theorem dX0_sessionInOrder_0 : decode cX0_sessionInOrder 0 = .ok (.aload_n 0, 1) := by decide +kernel
theorem dX0_sessionInOrder_1 : decode cX0_sessionInOrder 1 = .ok (.getfield 34, 3) := by decide +kernel
theorem dX0_sessionInOrder_4 : decode cX0_sessionInOrder 4 = .ok (.astore_n 3, 1) := by decide +kernel
theorem dX0_sessionInOrder_5 : decode cX0_sessionInOrder 5 = .ok (.aload_n 3, 1) := by decide +kernel
theorem dX0_sessionInOrder_6 : decode cX0_sessionInOrder 6 = .ok (.arraylength, 1) := by decide +kernel
theorem dX0_sessionInOrder_7 : decode cX0_sessionInOrder 7 = .ok (.istore 4, 2) := by decide +kernel
theorem dX0_sessionInOrder_9 : decode cX0_sessionInOrder 9 = .ok (.iconst 0, 1) := by decide +kernel
theorem dX0_sessionInOrder_10 : decode cX0_sessionInOrder 10 = .ok (.istore 5, 2) := by decide +kernel
theorem dX0_sessionInOrder_12 : decode cX0_sessionInOrder 12 = .ok (.iload 5, 2) := by decide +kernel
theorem dX0_sessionInOrder_14 : decode cX0_sessionInOrder 14 = .ok (.iload 4, 2) := by decide +kernel
theorem dX0_sessionInOrder_16 : decode cX0_sessionInOrder 16 = .ok (.if_icmp .ge 43, 3) := by decide +kernel
theorem dX0_sessionInOrder_19 : decode cX0_sessionInOrder 19 = .ok (.aload_n 3, 1) := by decide +kernel
theorem dX0_sessionInOrder_20 : decode cX0_sessionInOrder 20 = .ok (.iload 5, 2) := by decide +kernel
theorem dX0_sessionInOrder_22 : decode cX0_sessionInOrder 22 = .ok (.aaload, 1) := by decide +kernel
theorem dX0_sessionInOrder_23 : decode cX0_sessionInOrder 23 = .ok (.astore 6, 2) := by decide +kernel
theorem dX0_sessionInOrder_25 : decode cX0_sessionInOrder 25 = .ok (.aload 6, 2) := by decide +kernel
theorem dX0_sessionInOrder_27 : decode cX0_sessionInOrder 27 = .ok (.iload_n 1, 1) := by decide +kernel
theorem dX0_sessionInOrder_28 : decode cX0_sessionInOrder 28 = .ok (.invokevirtual 138, 3) := by decide +kernel
theorem dX0_sessionInOrder_31 : decode cX0_sessionInOrder 31 = .ok (.ifCond .eq 22, 3) := by decide +kernel
theorem dX0_sessionInOrder_34 : decode cX0_sessionInOrder 34 = .ok (.aload_n 0, 1) := by decide +kernel
theorem dX0_sessionInOrder_35 : decode cX0_sessionInOrder 35 = .ok (.aload 6, 2) := by decide +kernel
theorem dX0_sessionInOrder_37 : decode cX0_sessionInOrder 37 = .ok (.iload_n 1, 1) := by decide +kernel
theorem dX0_sessionInOrder_38 : decode cX0_sessionInOrder 38 = .ok (.invokevirtual 173, 3) := by decide +kernel
theorem dX0_sessionInOrder_41 : decode cX0_sessionInOrder 41 = .ok (.iload_n 2, 1) := by decide +kernel
theorem dX0_sessionInOrder_42 : decode cX0_sessionInOrder 42 = .ok (.if_icmp .ne 11, 3) := by decide +kernel
theorem dX0_sessionInOrder_45 : decode cX0_sessionInOrder 45 = .ok (.aload_n 0, 1) := by decide +kernel
theorem dX0_sessionInOrder_46 : decode cX0_sessionInOrder 46 = .ok (.aload 6, 2) := by decide +kernel
theorem dX0_sessionInOrder_48 : decode cX0_sessionInOrder 48 = .ok (.iload_n 1, 1) := by decide +kernel
theorem dX0_sessionInOrder_49 : decode cX0_sessionInOrder 49 = .ok (.invokevirtual 165, 3) := by decide +kernel
theorem dX0_sessionInOrder_52 : decode cX0_sessionInOrder 52 = .ok (.ireturn, 1) := by decide +kernel
theorem dX0_sessionInOrder_53 : decode cX0_sessionInOrder 53 = .ok (.iinc 5 1, 3) := by decide +kernel
theorem dX0_sessionInOrder_56 : decode cX0_sessionInOrder 56 = .ok (.goto (-44), 3) := by decide +kernel
theorem dX0_sessionInOrder_59 : decode cX0_sessionInOrder 59 = .ok (.ldc 176, 2) := by decide +kernel
theorem dX0_sessionInOrder_61 : decode cX0_sessionInOrder 61 = .ok (.ireturn, 1) := by decide +kernel
set_option maxRecDepth 20000 in
theorem ggX0_aheadOnDay_X1_isOn : GoodIn wsX0_aheadOnDay wsX1_isOn := goodIn_r _ [6, 7, 8, 9, 5, 10, 11, 12, 13, 14, 30, 31, 32, 33, 34, 35, 36, 37, 38, 39, 40, 41, 42, 43, 44] (by decide +kernel) (by decide +kernel)
set_option maxRecDepth 20000 in
theorem gX0_aheadOnDay_X1_isOn : GoodIn wsX0_aheadOnDay (wsV RX0 138 RX1 yX1_isOn wsX1_isOn) := goodIn_app (goodIn_of _ (by decide +kernel)) ggX0_aheadOnDay_X1_isOn
set_option maxRecDepth 20000 in
theorem ggX0_aheadOnDay_X1_isAheadOnDay : GoodIn wsX0_aheadOnDay wsX1_isAheadOnDay := goodIn_r _ [18, 19, 20, 30, 31, 32, 33, 34, 35, 36, 37, 38, 39, 40, 41, 42, 43, 44] (by decide +kernel) (by decide +kernel)
set_option maxRecDepth 20000 in
theorem gX0_aheadOnDay_X1_isAheadOnDay : GoodIn wsX0_aheadOnDay (wsV RX0 161 RX1 yX1_isAheadOnDay wsX1_isAheadOnDay) := goodIn_app (goodIn_of _ (by decide +kernel)) ggX0_aheadOnDay_X1_isAheadOnDay
theorem dX0_aheadOnDay_0 : decode cX0_aheadOnDay 0 = .ok (.iconst 0, 1) := by decide +kernel
theorem dX0_aheadOnDay_1 : decode cX0_aheadOnDay 1 = .ok (.istore_n 3, 1) := by decide +kernel
theorem dX0_aheadOnDay_2 : decode cX0_aheadOnDay 2 = .ok (.aload_n 0, 1) := by decide +kernel
theorem dX0_aheadOnDay_3 : decode cX0_aheadOnDay 3 = .ok (.getfield 34, 3) := by decide +kernel
theorem dX0_aheadOnDay_6 : decode cX0_aheadOnDay 6 = .ok (.astore 4, 2) := by decide +kernel
theorem dX0_aheadOnDay_8 : decode cX0_aheadOnDay 8 = .ok (.aload 4, 2) := by decide +kernel
theorem dX0_aheadOnDay_10 : decode cX0_aheadOnDay 10 = .ok (.arraylength, 1) := by decide +kernel
theorem dX0_aheadOnDay_11 : decode cX0_aheadOnDay 11 = .ok (.istore 5, 2) := by decide +kernel
theorem dX0_aheadOnDay_13 : decode cX0_aheadOnDay 13 = .ok (.iconst 0, 1) := by decide +kernel
theorem dX0_aheadOnDay_14 : decode cX0_aheadOnDay 14 = .ok (.istore 6, 2) := by decide +kernel
theorem dX0_aheadOnDay_16 : decode cX0_aheadOnDay 16 = .ok (.iload 6, 2) := by decide +kernel
theorem dX0_aheadOnDay_18 : decode cX0_aheadOnDay 18 = .ok (.iload 5, 2) := by decide +kernel
theorem dX0_aheadOnDay_20 : decode cX0_aheadOnDay 20 = .ok (.if_icmp .ge 42, 3) := by decide +kernel
theorem dX0_aheadOnDay_23 : decode cX0_aheadOnDay 23 = .ok (.aload 4, 2) := by decide +kernel
theorem dX0_aheadOnDay_25 : decode cX0_aheadOnDay 25 = .ok (.iload 6, 2) := by decide +kernel
theorem dX0_aheadOnDay_27 : decode cX0_aheadOnDay 27 = .ok (.aaload, 1) := by decide +kernel
theorem dX0_aheadOnDay_28 : decode cX0_aheadOnDay 28 = .ok (.astore 7, 2) := by decide +kernel
theorem dX0_aheadOnDay_30 : decode cX0_aheadOnDay 30 = .ok (.iload_n 3, 1) := by decide +kernel
theorem dX0_aheadOnDay_31 : decode cX0_aheadOnDay 31 = .ok (.aload 7, 2) := by decide +kernel
theorem dX0_aheadOnDay_33 : decode cX0_aheadOnDay 33 = .ok (.iload_n 2, 1) := by decide +kernel
theorem dX0_aheadOnDay_34 : decode cX0_aheadOnDay 34 = .ok (.invokevirtual 138, 3) := by decide +kernel
theorem dX0_aheadOnDay_37 : decode cX0_aheadOnDay 37 = .ok (.ifCond .eq 16, 3) := by decide +kernel
theorem dX0_aheadOnDay_40 : decode cX0_aheadOnDay 40 = .ok (.aload 7, 2) := by decide +kernel
theorem dX0_aheadOnDay_42 : decode cX0_aheadOnDay 42 = .ok (.aload_n 1, 1) := by decide +kernel
theorem dX0_aheadOnDay_43 : decode cX0_aheadOnDay 43 = .ok (.invokevirtual 161, 3) := by decide +kernel
theorem dX0_aheadOnDay_46 : decode cX0_aheadOnDay 46 = .ok (.ifCond .eq 7, 3) := by decide +kernel
theorem dX0_aheadOnDay_49 : decode cX0_aheadOnDay 49 = .ok (.iconst 1, 1) := by decide +kernel
theorem dX0_aheadOnDay_50 : decode cX0_aheadOnDay 50 = .ok (.goto 4, 3) := by decide +kernel
theorem dX0_aheadOnDay_53 : decode cX0_aheadOnDay 53 = .ok (.iconst 0, 1) := by decide +kernel
theorem dX0_aheadOnDay_54 : decode cX0_aheadOnDay 54 = .ok (.iadd, 1) := by decide +kernel
theorem dX0_aheadOnDay_55 : decode cX0_aheadOnDay 55 = .ok (.istore_n 3, 1) := by decide +kernel
theorem dX0_aheadOnDay_56 : decode cX0_aheadOnDay 56 = .ok (.iinc 6 1, 3) := by decide +kernel
theorem dX0_aheadOnDay_59 : decode cX0_aheadOnDay 59 = .ok (.goto (-43), 3) := by decide +kernel
theorem dX0_aheadOnDay_62 : decode cX0_aheadOnDay 62 = .ok (.iload_n 3, 1) := by decide +kernel
theorem dX0_aheadOnDay_63 : decode cX0_aheadOnDay 63 = .ok (.ireturn, 1) := by decide +kernel
set_option maxRecDepth 20000 in
theorem ggX0_make_X0_priceOf : GoodIn wsX0_make wsX0_priceOf := goodIn_r _ [11, 12, 13, 14, 15, 10, 16, 17, 18, 19, 20, 21, 22, 23, 4, 24, 25, 26, 67, 68, 69, 70, 71, 72, 73, 58, 59, 60, 61, 62, 63, 64, 65, 66] (by decide +kernel) (by decide +kernel)
set_option maxRecDepth 20000 in
theorem gX0_make_X0_priceOf : GoodIn wsX0_make (wsV RX0 178 RX0 yX0_priceOf wsX0_priceOf) := goodIn_app (goodIn_of _ (by decide +kernel)) ggX0_make_X0_priceOf
set_option maxRecDepth 20000 in
theorem ggX0_make_X1_begin : GoodIn wsX0_make wsX1_begin := goodIn_r _ [31, 32, 33, 34, 35, 36, 37, 38, 39, 40, 41, 42, 43, 44, 45, 46, 47, 67, 68, 69, 70, 71, 72, 73, 74, 75, 76, 77, 78, 79, 80, 81, 82, 83, 84, 85, 86, 87, 88] (by decide +kernel) (by decide +kernel)
set_option maxRecDepth 20000 in
theorem gX0_make_X1_begin : GoodIn wsX0_make (wsV RX0 181 RX1 yX1_begin wsX1_begin) := goodIn_app (goodIn_of _ (by decide +kernel)) ggX0_make_X1_begin
set_option maxRecDepth 20000 in
theorem ggX0_make_X0_charge : GoodIn wsX0_make wsX0_charge := goodIn_r _ [51, 52, 6, 53, 54, 55, 10, 56, 57, 58, 59, 60, 61, 62, 63, 64, 65, 66] (by decide +kernel) (by decide +kernel)
set_option maxRecDepth 20000 in
theorem gX0_make_X0_charge : GoodIn wsX0_make (wsV RX0 185 RX0 yX0_charge wsX0_charge) := goodIn_app (goodIn_of _ (by decide +kernel)) ggX0_make_X0_charge
theorem dX0_make_0 : decode cX0_make 0 = .ok (.aload_n 0, 1) := by decide +kernel
theorem dX0_make_1 : decode cX0_make 1 = .ok (.getfield 55, 3) := by decide +kernel
theorem dX0_make_4 : decode cX0_make 4 = .ok (.ifCond .lt 15, 3) := by decide +kernel
theorem dX0_make_7 : decode cX0_make 7 = .ok (.aload_n 0, 1) := by decide +kernel
theorem dX0_make_8 : decode cX0_make 8 = .ok (.getfield 55, 3) := by decide +kernel
theorem dX0_make_11 : decode cX0_make 11 = .ok (.aload_n 0, 1) := by decide +kernel
theorem dX0_make_12 : decode cX0_make 12 = .ok (.getfield 34, 3) := by decide +kernel
theorem dX0_make_15 : decode cX0_make 15 = .ok (.arraylength, 1) := by decide +kernel
theorem dX0_make_16 : decode cX0_make 16 = .ok (.if_icmp .lt 6, 3) := by decide +kernel
theorem dX0_make_19 : decode cX0_make 19 = .ok (.ldc 177, 2) := by decide +kernel
theorem dX0_make_21 : decode cX0_make 21 = .ok (.ireturn, 1) := by decide +kernel
theorem dX0_make_22 : decode cX0_make 22 = .ok (.aload_n 0, 1) := by decide +kernel
theorem dX0_make_23 : decode cX0_make 23 = .ok (.aload_n 1, 1) := by decide +kernel
theorem dX0_make_24 : decode cX0_make 24 = .ok (.invokevirtual 178, 3) := by decide +kernel
theorem dX0_make_27 : decode cX0_make 27 = .ok (.istore_n 2, 1) := by decide +kernel
theorem dX0_make_28 : decode cX0_make 28 = .ok (.aload_n 0, 1) := by decide +kernel
theorem dX0_make_29 : decode cX0_make 29 = .ok (.getfield 18, 3) := by decide +kernel
theorem dX0_make_32 : decode cX0_make 32 = .ok (.iconst 5, 1) := by decide +kernel
theorem dX0_make_33 : decode cX0_make 33 = .ok (.iaload, 1) := by decide +kernel
theorem dX0_make_34 : decode cX0_make 34 = .ok (.istore_n 3, 1) := by decide +kernel
theorem dX0_make_35 : decode cX0_make 35 = .ok (.aload_n 0, 1) := by decide +kernel
theorem dX0_make_36 : decode cX0_make 36 = .ok (.getfield 34, 3) := by decide +kernel
theorem dX0_make_39 : decode cX0_make 39 = .ok (.aload_n 0, 1) := by decide +kernel
theorem dX0_make_40 : decode cX0_make 40 = .ok (.getfield 55, 3) := by decide +kernel
theorem dX0_make_43 : decode cX0_make 43 = .ok (.aaload, 1) := by decide +kernel
theorem dX0_make_44 : decode cX0_make 44 = .ok (.aload_n 1, 1) := by decide +kernel
theorem dX0_make_45 : decode cX0_make 45 = .ok (.iload_n 2, 1) := by decide +kernel
theorem dX0_make_46 : decode cX0_make 46 = .ok (.iload_n 3, 1) := by decide +kernel
theorem dX0_make_47 : decode cX0_make 47 = .ok (.invokevirtual 181, 3) := by decide +kernel
theorem dX0_make_50 : decode cX0_make 50 = .ok (.aload_n 0, 1) := by decide +kernel
theorem dX0_make_51 : decode cX0_make 51 = .ok (.dup, 1) := by decide +kernel
theorem dX0_make_52 : decode cX0_make 52 = .ok (.getfield 55, 3) := by decide +kernel
theorem dX0_make_55 : decode cX0_make 55 = .ok (.iconst 1, 1) := by decide +kernel
theorem dX0_make_56 : decode cX0_make 56 = .ok (.iadd, 1) := by decide +kernel
theorem dX0_make_57 : decode cX0_make 57 = .ok (.putfield 55, 3) := by decide +kernel
theorem dX0_make_60 : decode cX0_make 60 = .ok (.aload_n 0, 1) := by decide +kernel
theorem dX0_make_61 : decode cX0_make 61 = .ok (.aload_n 1, 1) := by decide +kernel
theorem dX0_make_62 : decode cX0_make 62 = .ok (.getfield 169, 3) := by decide +kernel
theorem dX0_make_65 : decode cX0_make 65 = .ok (.iload_n 2, 1) := by decide +kernel
theorem dX0_make_66 : decode cX0_make 66 = .ok (.iconst 0, 1) := by decide +kernel
theorem dX0_make_67 : decode cX0_make 67 = .ok (.invokevirtual 185, 3) := by decide +kernel
theorem dX0_make_70 : decode cX0_make 70 = .ok (.aload_n 0, 1) := by decide +kernel
theorem dX0_make_71 : decode cX0_make 71 = .ok (.aload_n 1, 1) := by decide +kernel
theorem dX0_make_72 : decode cX0_make 72 = .ok (.getfield 169, 3) := by decide +kernel
theorem dX0_make_75 : decode cX0_make 75 = .ok (.iload_n 3, 1) := by decide +kernel
theorem dX0_make_76 : decode cX0_make 76 = .ok (.iconst 2, 1) := by decide +kernel
theorem dX0_make_77 : decode cX0_make 77 = .ok (.invokevirtual 185, 3) := by decide +kernel
theorem dX0_make_80 : decode cX0_make 80 = .ok (.aload_n 0, 1) := by decide +kernel
theorem dX0_make_81 : decode cX0_make 81 = .ok (.getfield 23, 3) := by decide +kernel
theorem dX0_make_84 : decode cX0_make 84 = .ok (.iconst 3, 1) := by decide +kernel
theorem dX0_make_85 : decode cX0_make 85 = .ok (.dup2, 1) := by decide +kernel
theorem dX0_make_86 : decode cX0_make 86 = .ok (.iaload, 1) := by decide +kernel
theorem dX0_make_87 : decode cX0_make 87 = .ok (.iload_n 3, 1) := by decide +kernel
theorem dX0_make_88 : decode cX0_make 88 = .ok (.iadd, 1) := by decide +kernel
theorem dX0_make_89 : decode cX0_make 89 = .ok (.iastore, 1) := by decide +kernel
theorem dX0_make_90 : decode cX0_make 90 = .ok (.aload_n 0, 1) := by decide +kernel
theorem dX0_make_91 : decode cX0_make 91 = .ok (.getfield 55, 3) := by decide +kernel
theorem dX0_make_94 : decode cX0_make 94 = .ok (.iconst 1, 1) := by decide +kernel
theorem dX0_make_95 : decode cX0_make 95 = .ok (.isub, 1) := by decide +kernel
theorem dX0_make_96 : decode cX0_make 96 = .ok (.ireturn, 1) := by decide +kernel
set_option maxRecDepth 20000 in
theorem ggX0_charge_X0_isHirer : GoodIn wsX0_charge wsX0_isHirer := goodIn_r _ [7, 8, 9, 10, 11, 12, 13, 14, 15, 16, 17] (by decide +kernel) (by decide +kernel)
set_option maxRecDepth 20000 in
theorem gX0_charge_X0_isHirer : GoodIn wsX0_charge (wsV RX0 189 RX0 yX0_isHirer wsX0_isHirer) := goodIn_app (goodIn_of _ (by decide +kernel)) ggX0_charge_X0_isHirer
theorem dX0_charge_0 : decode cX0_charge 0 = .ok (.aload_n 0, 1) := by decide +kernel
theorem dX0_charge_1 : decode cX0_charge 1 = .ok (.iload_n 1, 1) := by decide +kernel
theorem dX0_charge_2 : decode cX0_charge 2 = .ok (.invokevirtual 189, 3) := by decide +kernel
theorem dX0_charge_5 : decode cX0_charge 5 = .ok (.ifCond .eq 33, 3) := by decide +kernel
theorem dX0_charge_8 : decode cX0_charge 8 = .ok (.iload_n 3, 1) := by decide +kernel
theorem dX0_charge_9 : decode cX0_charge 9 = .ok (.ifCond .lt 29, 3) := by decide +kernel
theorem dX0_charge_12 : decode cX0_charge 12 = .ok (.iload_n 3, 1) := by decide +kernel
theorem dX0_charge_13 : decode cX0_charge 13 = .ok (.bipush 9, 2) := by decide +kernel
theorem dX0_charge_15 : decode cX0_charge 15 = .ok (.if_icmp .ge 23, 3) := by decide +kernel
theorem dX0_charge_18 : decode cX0_charge 18 = .ok (.aload_n 0, 1) := by decide +kernel
theorem dX0_charge_19 : decode cX0_charge 19 = .ok (.getfield 26, 3) := by decide +kernel
theorem dX0_charge_22 : decode cX0_charge 22 = .ok (.iload_n 1, 1) := by decide +kernel
theorem dX0_charge_23 : decode cX0_charge 23 = .ok (.dup2, 1) := by decide +kernel
theorem dX0_charge_24 : decode cX0_charge 24 = .ok (.iaload, 1) := by decide +kernel
theorem dX0_charge_25 : decode cX0_charge 25 = .ok (.iload_n 2, 1) := by decide +kernel
theorem dX0_charge_26 : decode cX0_charge 26 = .ok (.iadd, 1) := by decide +kernel
theorem dX0_charge_27 : decode cX0_charge 27 = .ok (.iastore, 1) := by decide +kernel
theorem dX0_charge_28 : decode cX0_charge 28 = .ok (.aload_n 0, 1) := by decide +kernel
theorem dX0_charge_29 : decode cX0_charge 29 = .ok (.getfield 23, 3) := by decide +kernel
theorem dX0_charge_32 : decode cX0_charge 32 = .ok (.iload_n 3, 1) := by decide +kernel
theorem dX0_charge_33 : decode cX0_charge 33 = .ok (.dup2, 1) := by decide +kernel
theorem dX0_charge_34 : decode cX0_charge 34 = .ok (.iaload, 1) := by decide +kernel
theorem dX0_charge_35 : decode cX0_charge 35 = .ok (.iload_n 2, 1) := by decide +kernel
theorem dX0_charge_36 : decode cX0_charge 36 = .ok (.iadd, 1) := by decide +kernel
theorem dX0_charge_37 : decode cX0_charge 37 = .ok (.iastore, 1) := by decide +kernel
theorem dX0_charge_38 : decode cX0_charge 38 = .ok (.return_, 1) := by decide +kernel
set_option maxRecDepth 20000 in
theorem ggX0_credit_X0_isHirer : GoodIn wsX0_credit wsX0_isHirer := goodIn_r _ [7, 8, 9, 10, 11, 12, 13, 14, 15, 16, 17] (by decide +kernel) (by decide +kernel)
set_option maxRecDepth 20000 in
theorem gX0_credit_X0_isHirer : GoodIn wsX0_credit (wsV RX0 189 RX0 yX0_isHirer wsX0_isHirer) := goodIn_app (goodIn_of _ (by decide +kernel)) ggX0_credit_X0_isHirer
theorem dX0_credit_0 : decode cX0_credit 0 = .ok (.aload_n 0, 1) := by decide +kernel
theorem dX0_credit_1 : decode cX0_credit 1 = .ok (.iload_n 1, 1) := by decide +kernel
theorem dX0_credit_2 : decode cX0_credit 2 = .ok (.invokevirtual 189, 3) := by decide +kernel
theorem dX0_credit_5 : decode cX0_credit 5 = .ok (.ifCond .eq 33, 3) := by decide +kernel
theorem dX0_credit_8 : decode cX0_credit 8 = .ok (.iload_n 3, 1) := by decide +kernel
theorem dX0_credit_9 : decode cX0_credit 9 = .ok (.ifCond .lt 29, 3) := by decide +kernel
theorem dX0_credit_12 : decode cX0_credit 12 = .ok (.iload_n 3, 1) := by decide +kernel
theorem dX0_credit_13 : decode cX0_credit 13 = .ok (.bipush 9, 2) := by decide +kernel
theorem dX0_credit_15 : decode cX0_credit 15 = .ok (.if_icmp .ge 23, 3) := by decide +kernel
theorem dX0_credit_18 : decode cX0_credit 18 = .ok (.aload_n 0, 1) := by decide +kernel
theorem dX0_credit_19 : decode cX0_credit 19 = .ok (.getfield 29, 3) := by decide +kernel
theorem dX0_credit_22 : decode cX0_credit 22 = .ok (.iload_n 1, 1) := by decide +kernel
theorem dX0_credit_23 : decode cX0_credit 23 = .ok (.dup2, 1) := by decide +kernel
theorem dX0_credit_24 : decode cX0_credit 24 = .ok (.iaload, 1) := by decide +kernel
theorem dX0_credit_25 : decode cX0_credit 25 = .ok (.iload_n 2, 1) := by decide +kernel
theorem dX0_credit_26 : decode cX0_credit 26 = .ok (.iadd, 1) := by decide +kernel
theorem dX0_credit_27 : decode cX0_credit 27 = .ok (.iastore, 1) := by decide +kernel
theorem dX0_credit_28 : decode cX0_credit 28 = .ok (.aload_n 0, 1) := by decide +kernel
theorem dX0_credit_29 : decode cX0_credit 29 = .ok (.getfield 23, 3) := by decide +kernel
theorem dX0_credit_32 : decode cX0_credit 32 = .ok (.iload_n 3, 1) := by decide +kernel
theorem dX0_credit_33 : decode cX0_credit 33 = .ok (.dup2, 1) := by decide +kernel
theorem dX0_credit_34 : decode cX0_credit 34 = .ok (.iaload, 1) := by decide +kernel
theorem dX0_credit_35 : decode cX0_credit 35 = .ok (.iload_n 2, 1) := by decide +kernel
theorem dX0_credit_36 : decode cX0_credit 36 = .ok (.iadd, 1) := by decide +kernel
theorem dX0_credit_37 : decode cX0_credit 37 = .ok (.iastore, 1) := by decide +kernel
theorem dX0_credit_38 : decode cX0_credit 38 = .ok (.return_, 1) := by decide +kernel
set_option maxRecDepth 20000 in
theorem ggX0_takeFromDeposit_X0_charge : GoodIn wsX0_takeFromDeposit wsX0_charge := goodIn_r _ [12, 13, 6, 14, 15, 16, 11, 17, 18, 34, 35, 36, 37, 38, 39, 40, 41, 42] (by decide +kernel) (by decide +kernel)
set_option maxRecDepth 20000 in
theorem gX0_takeFromDeposit_X0_charge : GoodIn wsX0_takeFromDeposit (wsV RX0 185 RX0 yX0_charge wsX0_charge) := goodIn_app (goodIn_of _ (by decide +kernel)) ggX0_takeFromDeposit_X0_charge
theorem dX0_takeFromDeposit_0 : decode cX0_takeFromDeposit 0 = .ok (.iload_n 3, 1) := by decide +kernel
theorem dX0_takeFromDeposit_1 : decode cX0_takeFromDeposit 1 = .ok (.ifCond .lt 9, 3) := by decide +kernel
theorem dX0_takeFromDeposit_4 : decode cX0_takeFromDeposit 4 = .ok (.iload_n 3, 1) := by decide +kernel
theorem dX0_takeFromDeposit_5 : decode cX0_takeFromDeposit 5 = .ok (.bipush 9, 2) := by decide +kernel
theorem dX0_takeFromDeposit_7 : decode cX0_takeFromDeposit 7 = .ok (.if_icmp .lt 5, 3) := by decide +kernel
theorem dX0_takeFromDeposit_10 : decode cX0_takeFromDeposit 10 = .ok (.iconst 0, 1) := by decide +kernel
theorem dX0_takeFromDeposit_11 : decode cX0_takeFromDeposit 11 = .ok (.ireturn, 1) := by decide +kernel
theorem dX0_takeFromDeposit_12 : decode cX0_takeFromDeposit 12 = .ok (.iload_n 2, 1) := by decide +kernel
theorem dX0_takeFromDeposit_13 : decode cX0_takeFromDeposit 13 = .ok (.aload_n 1, 1) := by decide +kernel
theorem dX0_takeFromDeposit_14 : decode cX0_takeFromDeposit 14 = .ok (.getfield 192, 3) := by decide +kernel
theorem dX0_takeFromDeposit_17 : decode cX0_takeFromDeposit 17 = .ok (.invokestatic 195, 3) := by decide +kernel
theorem dX0_takeFromDeposit_20 : decode cX0_takeFromDeposit 20 = .ok (.istore 4, 2) := by decide +kernel
theorem dX0_takeFromDeposit_22 : decode cX0_takeFromDeposit 22 = .ok (.aload_n 1, 1) := by decide +kernel
theorem dX0_takeFromDeposit_23 : decode cX0_takeFromDeposit 23 = .ok (.dup, 1) := by decide +kernel
theorem dX0_takeFromDeposit_24 : decode cX0_takeFromDeposit 24 = .ok (.getfield 192, 3) := by decide +kernel
theorem dX0_takeFromDeposit_27 : decode cX0_takeFromDeposit 27 = .ok (.iload 4, 2) := by decide +kernel
theorem dX0_takeFromDeposit_29 : decode cX0_takeFromDeposit 29 = .ok (.isub, 1) := by decide +kernel
theorem dX0_takeFromDeposit_30 : decode cX0_takeFromDeposit 30 = .ok (.putfield 192, 3) := by decide +kernel
theorem dX0_takeFromDeposit_33 : decode cX0_takeFromDeposit 33 = .ok (.aload_n 0, 1) := by decide +kernel
theorem dX0_takeFromDeposit_34 : decode cX0_takeFromDeposit 34 = .ok (.getfield 23, 3) := by decide +kernel
theorem dX0_takeFromDeposit_37 : decode cX0_takeFromDeposit 37 = .ok (.iconst 3, 1) := by decide +kernel
theorem dX0_takeFromDeposit_38 : decode cX0_takeFromDeposit 38 = .ok (.dup2, 1) := by decide +kernel
theorem dX0_takeFromDeposit_39 : decode cX0_takeFromDeposit 39 = .ok (.iaload, 1) := by decide +kernel
theorem dX0_takeFromDeposit_40 : decode cX0_takeFromDeposit 40 = .ok (.iload 4, 2) := by decide +kernel
theorem dX0_takeFromDeposit_42 : decode cX0_takeFromDeposit 42 = .ok (.isub, 1) := by decide +kernel
theorem dX0_takeFromDeposit_43 : decode cX0_takeFromDeposit 43 = .ok (.iastore, 1) := by decide +kernel
theorem dX0_takeFromDeposit_44 : decode cX0_takeFromDeposit 44 = .ok (.aload_n 0, 1) := by decide +kernel
theorem dX0_takeFromDeposit_45 : decode cX0_takeFromDeposit 45 = .ok (.getfield 23, 3) := by decide +kernel
theorem dX0_takeFromDeposit_48 : decode cX0_takeFromDeposit 48 = .ok (.iload_n 3, 1) := by decide +kernel
theorem dX0_takeFromDeposit_49 : decode cX0_takeFromDeposit 49 = .ok (.dup2, 1) := by decide +kernel
theorem dX0_takeFromDeposit_50 : decode cX0_takeFromDeposit 50 = .ok (.iaload, 1) := by decide +kernel
theorem dX0_takeFromDeposit_51 : decode cX0_takeFromDeposit 51 = .ok (.iload 4, 2) := by decide +kernel
theorem dX0_takeFromDeposit_53 : decode cX0_takeFromDeposit 53 = .ok (.iadd, 1) := by decide +kernel
theorem dX0_takeFromDeposit_54 : decode cX0_takeFromDeposit 54 = .ok (.iastore, 1) := by decide +kernel
theorem dX0_takeFromDeposit_55 : decode cX0_takeFromDeposit 55 = .ok (.aload_n 0, 1) := by decide +kernel
theorem dX0_takeFromDeposit_56 : decode cX0_takeFromDeposit 56 = .ok (.aload_n 1, 1) := by decide +kernel
theorem dX0_takeFromDeposit_57 : decode cX0_takeFromDeposit 57 = .ok (.getfield 78, 3) := by decide +kernel
theorem dX0_takeFromDeposit_60 : decode cX0_takeFromDeposit 60 = .ok (.iload_n 2, 1) := by decide +kernel
theorem dX0_takeFromDeposit_61 : decode cX0_takeFromDeposit 61 = .ok (.iload 4, 2) := by decide +kernel
theorem dX0_takeFromDeposit_63 : decode cX0_takeFromDeposit 63 = .ok (.isub, 1) := by decide +kernel
theorem dX0_takeFromDeposit_64 : decode cX0_takeFromDeposit 64 = .ok (.bipush 7, 2) := by decide +kernel
