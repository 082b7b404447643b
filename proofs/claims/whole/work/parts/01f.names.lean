theorem dX8_pay_30 : decode cX8_pay 30 = .ok (.iload_n 1, 1) := by decide +kernel
theorem dX8_pay_31 : decode cX8_pay 31 = .ok (.imul, 1) := by decide +kernel
theorem dX8_pay_32 : decode cX8_pay 32 = .ok (.iadd, 1) := by decide +kernel
theorem dX8_pay_33 : decode cX8_pay 33 = .ok (.iconst 1, 1) := by decide +kernel
theorem dX8_pay_34 : decode cX8_pay 34 = .ok (.iadd, 1) := by decide +kernel
theorem dX8_pay_35 : decode cX8_pay 35 = .ok (.iaload, 1) := by decide +kernel
theorem dX8_pay_36 : decode cX8_pay 36 = .ok (.iload_n 2, 1) := by decide +kernel
theorem dX8_pay_37 : decode cX8_pay 37 = .ok (.iadd, 1) := by decide +kernel
theorem dX8_pay_38 : decode cX8_pay 38 = .ok (.ldc 67, 2) := by decide +kernel
theorem dX8_pay_40 : decode cX8_pay 40 = .ok (.if_icmp .le 6, 3) := by decide +kernel
theorem dX8_pay_43 : decode cX8_pay 43 = .ok (.ldc 45, 2) := by decide +kernel
theorem dX8_pay_45 : decode cX8_pay 45 = .ok (.ireturn, 1) := by decide +kernel
theorem dX8_pay_46 : decode cX8_pay 46 = .ok (.aload_n 0, 1) := by decide +kernel
theorem dX8_pay_47 : decode cX8_pay 47 = .ok (.invokevirtual 46, 3) := by decide +kernel
theorem dX8_pay_50 : decode cX8_pay 50 = .ok (.aload_n 0, 1) := by decide +kernel
theorem dX8_pay_51 : decode cX8_pay 51 = .ok (.iload_n 1, 1) := by decide +kernel
theorem dX8_pay_52 : decode cX8_pay 52 = .ok (.iload_n 2, 1) := by decide +kernel
theorem dX8_pay_53 : decode cX8_pay 53 = .ok (.invokevirtual 68, 3) := by decide +kernel
theorem dX8_pay_56 : decode cX8_pay 56 = .ok (.aload_n 0, 1) := by decide +kernel
theorem dX8_pay_57 : decode cX8_pay 57 = .ok (.getfield 7, 3) := by decide +kernel
theorem dX8_pay_60 : decode cX8_pay 60 = .ok (.bipush 19, 2) := by decide +kernel
theorem dX8_pay_62 : decode cX8_pay 62 = .ok (.dup2, 1) := by decide +kernel
theorem dX8_pay_63 : decode cX8_pay 63 = .ok (.iaload, 1) := by decide +kernel
theorem dX8_pay_64 : decode cX8_pay 64 = .ok (.iload_n 2, 1) := by decide +kernel
theorem dX8_pay_65 : decode cX8_pay 65 = .ok (.iadd, 1) := by decide +kernel
theorem dX8_pay_66 : decode cX8_pay 66 = .ok (.iastore, 1) := by decide +kernel
theorem dX8_pay_67 : decode cX8_pay 67 = .ok (.aload_n 0, 1) := by decide +kernel
theorem dX8_pay_68 : decode cX8_pay 68 = .ok (.getfield 7, 3) := by decide +kernel
theorem dX8_pay_71 : decode cX8_pay 71 = .ok (.bipush 20, 2) := by decide +kernel
theorem dX8_pay_73 : decode cX8_pay 73 = .ok (.iconst 2, 1) := by decide +kernel
theorem dX8_pay_74 : decode cX8_pay 74 = .ok (.iload_n 1, 1) := by decide +kernel
theorem dX8_pay_75 : decode cX8_pay 75 = .ok (.imul, 1) := by decide +kernel
theorem dX8_pay_76 : decode cX8_pay 76 = .ok (.iadd, 1) := by decide +kernel
theorem dX8_pay_77 : decode cX8_pay 77 = .ok (.iaload, 1) := by decide +kernel
theorem dX8_pay_78 : decode cX8_pay 78 = .ok (.aload_n 0, 1) := by decide +kernel
theorem dX8_pay_79 : decode cX8_pay 79 = .ok (.getfield 7, 3) := by decide +kernel
theorem dX8_pay_82 : decode cX8_pay 82 = .ok (.bipush 20, 2) := by decide +kernel
theorem dX8_pay_84 : decode cX8_pay 84 = .ok (.iconst 2, 1) := by decide +kernel
theorem dX8_pay_85 : decode cX8_pay 85 = .ok (.iload_n 1, 1) := by decide +kernel
theorem dX8_pay_86 : decode cX8_pay 86 = .ok (.imul, 1) := by decide +kernel
theorem dX8_pay_87 : decode cX8_pay 87 = .ok (.iadd, 1) := by decide +kernel
theorem dX8_pay_88 : decode cX8_pay 88 = .ok (.iconst 1, 1) := by decide +kernel
theorem dX8_pay_89 : decode cX8_pay 89 = .ok (.iadd, 1) := by decide +kernel
theorem dX8_pay_90 : decode cX8_pay 90 = .ok (.iaload, 1) := by decide +kernel
theorem dX8_pay_91 : decode cX8_pay 91 = .ok (.isub, 1) := by decide +kernel
theorem dX8_pay_92 : decode cX8_pay 92 = .ok (.ireturn, 1) := by decide +kernel
theorem dX8_mostOf_0 : decode cX8_mostOf 0 = .ok (.iload_n 0, 1) := by decide +kernel
theorem dX8_mostOf_1 : decode cX8_mostOf 1 = .ok (.tableswitch 46 3 7 #[35, 38, 40, 46, 43], 35) := by decide +kernel
theorem dX8_mostOf_36 : decode cX8_mostOf 36 = .ok (.bipush 100, 2) := by decide +kernel
theorem dX8_mostOf_38 : decode cX8_mostOf 38 = .ok (.ireturn, 1) := by decide +kernel
theorem dX8_mostOf_39 : decode cX8_mostOf 39 = .ok (.iconst 3, 1) := by decide +kernel
theorem dX8_mostOf_40 : decode cX8_mostOf 40 = .ok (.ireturn, 1) := by decide +kernel
theorem dX8_mostOf_41 : decode cX8_mostOf 41 = .ok (.ldc 72, 2) := by decide +kernel
theorem dX8_mostOf_43 : decode cX8_mostOf 43 = .ok (.ireturn, 1) := by decide +kernel
theorem dX8_mostOf_44 : decode cX8_mostOf 44 = .ok (.bipush 30, 2) := by decide +kernel
theorem dX8_mostOf_46 : decode cX8_mostOf 46 = .ok (.ireturn, 1) := by decide +kernel
theorem dX8_mostOf_47 : decode cX8_mostOf 47 = .ok (.sipush 5000, 3) := by decide +kernel
theorem dX8_mostOf_50 : decode cX8_mostOf 50 = .ok (.ireturn, 1) := by decide +kernel
set_option maxRecDepth 20000 in
theorem ggX8_set_X8_in : GoodIn wsX8_set wsX8_in := goodIn_r _ [7] (by decide +kernel) (by decide +kernel)
set_option maxRecDepth 20000 in
theorem gX8_set_X8_in : GoodIn wsX8_set (va_wsS RX8 30 yX8_in wsX8_in) := goodIn_app (goodIn_of _ (by decide +kernel)) ggX8_set_X8_in
set_option maxRecDepth 20000 in
theorem ggX8_set_X8_mostOf : GoodIn wsX8_set wsX8_mostOf := goodIn_r _ [10, 11] (by decide +kernel) (by decide +kernel)
set_option maxRecDepth 20000 in
theorem gX8_set_X8_mostOf : GoodIn wsX8_set (va_wsS RX8 75 yX8_mostOf wsX8_mostOf) := goodIn_app (goodIn_of _ (by decide +kernel)) ggX8_set_X8_mostOf
set_option maxRecDepth 20000 in
theorem ggX8_set_X8_save : GoodIn wsX8_set wsX8_save := goodIn_r _ [15, 16, 17, 3, 18, 19, 20, 21, 22, 23, 24, 25, 26, 27, 28, 29, 30, 31, 32, 33, 34, 35] (by decide +kernel) (by decide +kernel)
set_option maxRecDepth 20000 in
theorem gX8_set_X8_save : GoodIn wsX8_set (wsV RX8 46 RX8 yX8_save wsX8_save) := goodIn_app (goodIn_of _ (by decide +kernel)) ggX8_set_X8_save
theorem dX8_set_0 : decode cX8_set 0 = .ok (.iload_n 1, 1) := by decide +kernel
theorem dX8_set_1 : decode cX8_set 1 = .ok (.i2l, 1) := by decide +kernel
theorem dX8_set_2 : decode cX8_set 2 = .ok (.lconst 0, 1) := by decide +kernel
theorem dX8_set_3 : decode cX8_set 3 = .ok (.ldc2_w 73, 3) := by decide +kernel
theorem dX8_set_6 : decode cX8_set 6 = .ok (.invokestatic 30, 3) := by decide +kernel
theorem dX8_set_9 : decode cX8_set 9 = .ok (.ifCond .eq 17, 3) := by decide +kernel
theorem dX8_set_12 : decode cX8_set 12 = .ok (.iload_n 2, 1) := by decide +kernel
theorem dX8_set_13 : decode cX8_set 13 = .ok (.i2l, 1) := by decide +kernel
theorem dX8_set_14 : decode cX8_set 14 = .ok (.lconst 0, 1) := by decide +kernel
theorem dX8_set_15 : decode cX8_set 15 = .ok (.iload_n 1, 1) := by decide +kernel
theorem dX8_set_16 : decode cX8_set 16 = .ok (.invokestatic 75, 3) := by decide +kernel
theorem dX8_set_19 : decode cX8_set 19 = .ok (.i2l, 1) := by decide +kernel
theorem dX8_set_20 : decode cX8_set 20 = .ok (.invokestatic 30, 3) := by decide +kernel
theorem dX8_set_23 : decode cX8_set 23 = .ok (.ifCond .ne 6, 3) := by decide +kernel
theorem dX8_set_26 : decode cX8_set 26 = .ok (.ldc 61, 2) := by decide +kernel
theorem dX8_set_28 : decode cX8_set 28 = .ok (.ireturn, 1) := by decide +kernel
theorem dX8_set_29 : decode cX8_set 29 = .ok (.aload_n 0, 1) := by decide +kernel
theorem dX8_set_30 : decode cX8_set 30 = .ok (.invokevirtual 46, 3) := by decide +kernel
theorem dX8_set_33 : decode cX8_set 33 = .ok (.aload_n 0, 1) := by decide +kernel
theorem dX8_set_34 : decode cX8_set 34 = .ok (.getfield 7, 3) := by decide +kernel
theorem dX8_set_37 : decode cX8_set 37 = .ok (.iconst 1, 1) := by decide +kernel
theorem dX8_set_38 : decode cX8_set 38 = .ok (.iload_n 1, 1) := by decide +kernel
theorem dX8_set_39 : decode cX8_set 39 = .ok (.iadd, 1) := by decide +kernel
theorem dX8_set_40 : decode cX8_set 40 = .ok (.iaload, 1) := by decide +kernel
theorem dX8_set_41 : decode cX8_set 41 = .ok (.istore_n 3, 1) := by decide +kernel
theorem dX8_set_42 : decode cX8_set 42 = .ok (.aload_n 0, 1) := by decide +kernel
theorem dX8_set_43 : decode cX8_set 43 = .ok (.getfield 7, 3) := by decide +kernel
theorem dX8_set_46 : decode cX8_set 46 = .ok (.iconst 1, 1) := by decide +kernel
theorem dX8_set_47 : decode cX8_set 47 = .ok (.iload_n 1, 1) := by decide +kernel
theorem dX8_set_48 : decode cX8_set 48 = .ok (.iadd, 1) := by decide +kernel
theorem dX8_set_49 : decode cX8_set 49 = .ok (.iload_n 2, 1) := by decide +kernel
theorem dX8_set_50 : decode cX8_set 50 = .ok (.iastore, 1) := by decide +kernel
theorem dX8_set_51 : decode cX8_set 51 = .ok (.iload_n 3, 1) := by decide +kernel
theorem dX8_set_52 : decode cX8_set 52 = .ok (.ireturn, 1) := by decide +kernel
theorem dX8_roomsIn_0 : decode cX8_roomsIn 0 = .ok (.iload_n 0, 1) := by decide +kernel
theorem dX8_roomsIn_1 : decode cX8_roomsIn 1 = .ok (.iconst 1, 1) := by decide +kernel
theorem dX8_roomsIn_2 : decode cX8_roomsIn 2 = .ok (.iand, 1) := by decide +kernel
theorem dX8_roomsIn_3 : decode cX8_roomsIn 3 = .ok (.iload_n 0, 1) := by decide +kernel
theorem dX8_roomsIn_4 : decode cX8_roomsIn 4 = .ok (.iconst 1, 1) := by decide +kernel
theorem dX8_roomsIn_5 : decode cX8_roomsIn 5 = .ok (.ishr, 1) := by decide +kernel
theorem dX8_roomsIn_6 : decode cX8_roomsIn 6 = .ok (.iconst 1, 1) := by decide +kernel
theorem dX8_roomsIn_7 : decode cX8_roomsIn 7 = .ok (.iand, 1) := by decide +kernel
theorem dX8_roomsIn_8 : decode cX8_roomsIn 8 = .ok (.iadd, 1) := by decide +kernel
theorem dX8_roomsIn_9 : decode cX8_roomsIn 9 = .ok (.iload_n 0, 1) := by decide +kernel
theorem dX8_roomsIn_10 : decode cX8_roomsIn 10 = .ok (.iconst 2, 1) := by decide +kernel
theorem dX8_roomsIn_11 : decode cX8_roomsIn 11 = .ok (.ishr, 1) := by decide +kernel
theorem dX8_roomsIn_12 : decode cX8_roomsIn 12 = .ok (.iconst 1, 1) := by decide +kernel
theorem dX8_roomsIn_13 : decode cX8_roomsIn 13 = .ok (.iand, 1) := by decide +kernel
theorem dX8_roomsIn_14 : decode cX8_roomsIn 14 = .ok (.iadd, 1) := by decide +kernel
theorem dX8_roomsIn_15 : decode cX8_roomsIn 15 = .ok (.ireturn, 1) := by decide +kernel
theorem dX8_sessionPrice_0 : decode cX8_sessionPrice 0 = .ok (.iconst 0, 1) := by decide +kernel
theorem dX8_sessionPrice_1 : decode cX8_sessionPrice 1 = .ok (.istore 4, 2) := by decide +kernel
theorem dX8_sessionPrice_3 : decode cX8_sessionPrice 3 = .ok (.iconst 0, 1) := by decide +kernel
theorem dX8_sessionPrice_4 : decode cX8_sessionPrice 4 = .ok (.istore 5, 2) := by decide +kernel
theorem dX8_sessionPrice_6 : decode cX8_sessionPrice 6 = .ok (.iload 5, 2) := by decide +kernel
theorem dX8_sessionPrice_8 : decode cX8_sessionPrice 8 = .ok (.iconst 3, 1) := by decide +kernel
theorem dX8_sessionPrice_9 : decode cX8_sessionPrice 9 = .ok (.if_icmp .ge 80, 3) := by decide +kernel
theorem dX8_sessionPrice_12 : decode cX8_sessionPrice 12 = .ok (.iload_n 2, 1) := by decide +kernel
theorem dX8_sessionPrice_13 : decode cX8_sessionPrice 13 = .ok (.istore 6, 2) := by decide +kernel
theorem dX8_sessionPrice_15 : decode cX8_sessionPrice 15 = .ok (.iload 6, 2) := by decide +kernel
theorem dX8_sessionPrice_17 : decode cX8_sessionPrice 17 = .ok (.iload_n 3, 1) := by decide +kernel
theorem dX8_sessionPrice_18 : decode cX8_sessionPrice 18 = .ok (.if_icmp .ge 65, 3) := by decide +kernel
theorem dX8_sessionPrice_21 : decode cX8_sessionPrice 21 = .ok (.iload_n 1, 1) := by decide +kernel
theorem dX8_sessionPrice_22 : decode cX8_sessionPrice 22 = .ok (.iload 5, 2) := by decide +kernel
theorem dX8_sessionPrice_24 : decode cX8_sessionPrice 24 = .ok (.ishr, 1) := by decide +kernel
theorem dX8_sessionPrice_25 : decode cX8_sessionPrice 25 = .ok (.iconst 1, 1) := by decide +kernel
theorem dX8_sessionPrice_26 : decode cX8_sessionPrice 26 = .ok (.iand, 1) := by decide +kernel
theorem dX8_sessionPrice_27 : decode cX8_sessionPrice 27 = .ok (.iconst 1, 1) := by decide +kernel
theorem dX8_sessionPrice_28 : decode cX8_sessionPrice 28 = .ok (.if_icmp .ne 15, 3) := by decide +kernel
theorem dX8_sessionPrice_31 : decode cX8_sessionPrice 31 = .ok (.aload_n 0, 1) := by decide +kernel
theorem dX8_sessionPrice_32 : decode cX8_sessionPrice 32 = .ok (.getfield 7, 3) := by decide +kernel
theorem dX8_sessionPrice_35 : decode cX8_sessionPrice 35 = .ok (.iconst 1, 1) := by decide +kernel
theorem dX8_sessionPrice_36 : decode cX8_sessionPrice 36 = .ok (.iload 5, 2) := by decide +kernel
theorem dX8_sessionPrice_38 : decode cX8_sessionPrice 38 = .ok (.iadd, 1) := by decide +kernel
theorem dX8_sessionPrice_39 : decode cX8_sessionPrice 39 = .ok (.iaload, 1) := by decide +kernel
theorem dX8_sessionPrice_40 : decode cX8_sessionPrice 40 = .ok (.goto 4, 3) := by decide +kernel
theorem dX8_sessionPrice_43 : decode cX8_sessionPrice 43 = .ok (.iconst 0, 1) := by decide +kernel
theorem dX8_sessionPrice_44 : decode cX8_sessionPrice 44 = .ok (.istore 7, 2) := by decide +kernel
theorem dX8_sessionPrice_46 : decode cX8_sessionPrice 46 = .ok (.iload 4, 2) := by decide +kernel
theorem dX8_sessionPrice_48 : decode cX8_sessionPrice 48 = .ok (.iload 7, 2) := by decide +kernel
theorem dX8_sessionPrice_50 : decode cX8_sessionPrice 50 = .ok (.iload 6, 2) := by decide +kernel
theorem dX8_sessionPrice_52 : decode cX8_sessionPrice 52 = .ok (.bipush 18, 2) := by decide +kernel
theorem dX8_sessionPrice_54 : decode cX8_sessionPrice 54 = .ok (.if_icmp .ge 7, 3) := by decide +kernel
theorem dX8_sessionPrice_57 : decode cX8_sessionPrice 57 = .ok (.iconst 0, 1) := by decide +kernel
theorem dX8_sessionPrice_58 : decode cX8_sessionPrice 58 = .ok (.goto 15, 3) := by decide +kernel
theorem dX8_sessionPrice_61 : decode cX8_sessionPrice 61 = .ok (.iload 7, 2) := by decide +kernel
theorem dX8_sessionPrice_63 : decode cX8_sessionPrice 63 = .ok (.aload_n 0, 1) := by decide +kernel
theorem dX8_sessionPrice_64 : decode cX8_sessionPrice 64 = .ok (.getfield 7, 3) := by decide +kernel
theorem dX8_sessionPrice_67 : decode cX8_sessionPrice 67 = .ok (.iconst 4, 1) := by decide +kernel
theorem dX8_sessionPrice_68 : decode cX8_sessionPrice 68 = .ok (.iaload, 1) := by decide +kernel
theorem dX8_sessionPrice_69 : decode cX8_sessionPrice 69 = .ok (.imul, 1) := by decide +kernel
theorem dX8_sessionPrice_70 : decode cX8_sessionPrice 70 = .ok (.bipush 100, 2) := by decide +kernel
theorem dX8_sessionPrice_72 : decode cX8_sessionPrice 72 = .ok (.idiv, 1) := by decide +kernel
theorem dX8_sessionPrice_73 : decode cX8_sessionPrice 73 = .ok (.iadd, 1) := by decide +kernel
theorem dX8_sessionPrice_74 : decode cX8_sessionPrice 74 = .ok (.iadd, 1) := by decide +kernel
theorem dX8_sessionPrice_75 : decode cX8_sessionPrice 75 = .ok (.istore 4, 2) := by decide +kernel
theorem dX8_sessionPrice_77 : decode cX8_sessionPrice 77 = .ok (.iinc 6 1, 3) := by decide +kernel
theorem dX8_sessionPrice_80 : decode cX8_sessionPrice 80 = .ok (.goto (-65), 3) := by decide +kernel
theorem dX8_sessionPrice_83 : decode cX8_sessionPrice 83 = .ok (.iinc 5 1, 3) := by decide +kernel
theorem dX8_sessionPrice_86 : decode cX8_sessionPrice 86 = .ok (.goto (-80), 3) := by decide +kernel
theorem dX8_sessionPrice_89 : decode cX8_sessionPrice 89 = .ok (.iload 4, 2) := by decide +kernel
theorem dX8_sessionPrice_91 : decode cX8_sessionPrice 91 = .ok (.ireturn, 1) := by decide +kernel
theorem dX8_discountOf_0 : decode cX8_discountOf 0 = .ok (.iload_n 0, 1) := by decide +kernel
theorem dX8_discountOf_1 : decode cX8_discountOf 1 = .ok (.iconst 4, 1) := by decide +kernel
theorem dX8_discountOf_2 : decode cX8_discountOf 2 = .ok (.if_icmp .ge 7, 3) := by decide +kernel
theorem dX8_discountOf_5 : decode cX8_discountOf 5 = .ok (.iconst 0, 1) := by decide +kernel
theorem dX8_discountOf_6 : decode cX8_discountOf 6 = .ok (.goto 16, 3) := by decide +kernel
theorem dX8_discountOf_9 : decode cX8_discountOf 9 = .ok (.iload_n 0, 1) := by decide +kernel
theorem dX8_discountOf_10 : decode cX8_discountOf 10 = .ok (.bipush 10, 2) := by decide +kernel
theorem dX8_discountOf_12 : decode cX8_discountOf 12 = .ok (.if_icmp .ge 8, 3) := by decide +kernel
theorem dX8_discountOf_15 : decode cX8_discountOf 15 = .ok (.bipush 10, 2) := by decide +kernel
theorem dX8_discountOf_17 : decode cX8_discountOf 17 = .ok (.goto 5, 3) := by decide +kernel
theorem dX8_discountOf_20 : decode cX8_discountOf 20 = .ok (.bipush 20, 2) := by decide +kernel
theorem dX8_discountOf_22 : decode cX8_discountOf 22 = .ok (.ireturn, 1) := by decide +kernel
set_option maxRecDepth 20000 in
theorem ggX8_priceOf_X8_sessionPrice : GoodIn wsX8_priceOf wsX8_sessionPrice := goodIn_r _ [5, 6, 10, 11, 12, 13, 14, 15, 16, 17, 18, 19, 20, 21, 22, 23, 24, 25, 26, 27] (by decide +kernel) (by decide +kernel)
set_option maxRecDepth 20000 in
theorem gX8_priceOf_X8_sessionPrice : GoodIn wsX8_priceOf (wsV RX8 78 RX8 yX8_sessionPrice wsX8_sessionPrice) := goodIn_app (goodIn_of _ (by decide +kernel)) ggX8_priceOf_X8_sessionPrice
set_option maxRecDepth 20000 in
theorem ggX8_priceOf_X8_discountOf : GoodIn wsX8_priceOf wsX8_discountOf := goodIn_r _ [9] (by decide +kernel) (by decide +kernel)
set_option maxRecDepth 20000 in
theorem gX8_priceOf_X8_discountOf : GoodIn wsX8_priceOf (va_wsS RX8 82 yX8_discountOf wsX8_discountOf) := goodIn_app (goodIn_of _ (by decide +kernel)) ggX8_priceOf_X8_discountOf
theorem dX8_priceOf_0 : decode cX8_priceOf 0 = .ok (.iload 4, 2) := by decide +kernel
theorem dX8_priceOf_2 : decode cX8_priceOf 2 = .ok (.aload_n 0, 1) := by decide +kernel
theorem dX8_priceOf_3 : decode cX8_priceOf 3 = .ok (.iload_n 1, 1) := by decide +kernel
theorem dX8_priceOf_4 : decode cX8_priceOf 4 = .ok (.iload_n 2, 1) := by decide +kernel
theorem dX8_priceOf_5 : decode cX8_priceOf 5 = .ok (.iload_n 3, 1) := by decide +kernel
theorem dX8_priceOf_6 : decode cX8_priceOf 6 = .ok (.invokevirtual 78, 3) := by decide +kernel
theorem dX8_priceOf_9 : decode cX8_priceOf 9 = .ok (.imul, 1) := by decide +kernel
theorem dX8_priceOf_10 : decode cX8_priceOf 10 = .ok (.istore 5, 2) := by decide +kernel
theorem dX8_priceOf_12 : decode cX8_priceOf 12 = .ok (.iload 5, 2) := by decide +kernel
theorem dX8_priceOf_14 : decode cX8_priceOf 14 = .ok (.iload 5, 2) := by decide +kernel
theorem dX8_priceOf_16 : decode cX8_priceOf 16 = .ok (.iload 4, 2) := by decide +kernel
theorem dX8_priceOf_18 : decode cX8_priceOf 18 = .ok (.invokestatic 82, 3) := by decide +kernel
theorem dX8_priceOf_21 : decode cX8_priceOf 21 = .ok (.imul, 1) := by decide +kernel
theorem dX8_priceOf_22 : decode cX8_priceOf 22 = .ok (.bipush 100, 2) := by decide +kernel
theorem dX8_priceOf_24 : decode cX8_priceOf 24 = .ok (.idiv, 1) := by decide +kernel
theorem dX8_priceOf_25 : decode cX8_priceOf 25 = .ok (.isub, 1) := by decide +kernel
theorem dX8_priceOf_26 : decode cX8_priceOf 26 = .ok (.ireturn, 1) := by decide +kernel
theorem dX8_areHours_0 : decode cX8_areHours 0 = .ok (.iload_n 0, 1) := by decide +kernel
theorem dX8_areHours_1 : decode cX8_areHours 1 = .ok (.ifCond .lt 27, 3) := by decide +kernel
theorem dX8_areHours_4 : decode cX8_areHours 4 = .ok (.iload_n 0, 1) := by decide +kernel
theorem dX8_areHours_5 : decode cX8_areHours 5 = .ok (.bipush 100, 2) := by decide +kernel
theorem dX8_areHours_7 : decode cX8_areHours 7 = .ok (.idiv, 1) := by decide +kernel
theorem dX8_areHours_8 : decode cX8_areHours 8 = .ok (.iload_n 0, 1) := by decide +kernel
theorem dX8_areHours_9 : decode cX8_areHours 9 = .ok (.bipush 100, 2) := by decide +kernel
theorem dX8_areHours_11 : decode cX8_areHours 11 = .ok (.irem, 1) := by decide +kernel
theorem dX8_areHours_12 : decode cX8_areHours 12 = .ok (.if_icmp .ge 16, 3) := by decide +kernel
theorem dX8_areHours_15 : decode cX8_areHours 15 = .ok (.iload_n 0, 1) := by decide +kernel
theorem dX8_areHours_16 : decode cX8_areHours 16 = .ok (.bipush 100, 2) := by decide +kernel
theorem dX8_areHours_18 : decode cX8_areHours 18 = .ok (.irem, 1) := by decide +kernel
theorem dX8_areHours_19 : decode cX8_areHours 19 = .ok (.bipush 24, 2) := by decide +kernel
theorem dX8_areHours_21 : decode cX8_areHours 21 = .ok (.if_icmp .gt 7, 3) := by decide +kernel
theorem dX8_areHours_24 : decode cX8_areHours 24 = .ok (.iconst 1, 1) := by decide +kernel
theorem dX8_areHours_25 : decode cX8_areHours 25 = .ok (.goto 4, 3) := by decide +kernel
theorem dX8_areHours_28 : decode cX8_areHours 28 = .ok (.iconst 0, 1) := by decide +kernel
theorem dX8_areHours_29 : decode cX8_areHours 29 = .ok (.ireturn, 1) := by decide +kernel
set_option maxRecDepth 20000 in
theorem ggX8_price_X8_in : GoodIn wsX8_price wsX8_in := goodIn_r _ [7] (by decide +kernel) (by decide +kernel)
set_option maxRecDepth 20000 in
theorem gX8_price_X8_in : GoodIn wsX8_price (va_wsS RX8 30 yX8_in wsX8_in) := goodIn_app (goodIn_of _ (by decide +kernel)) ggX8_price_X8_in
set_option maxRecDepth 20000 in
theorem ggX8_price_X8_areHours : GoodIn wsX8_price wsX8_areHours := goodIn_r _ [10] (by decide +kernel) (by decide +kernel)
set_option maxRecDepth 20000 in
theorem gX8_price_X8_areHours : GoodIn wsX8_price (va_wsS RX8 85 yX8_areHours wsX8_areHours) := goodIn_app (goodIn_of _ (by decide +kernel)) ggX8_price_X8_areHours
set_option maxRecDepth 20000 in
theorem ggX8_price_X8_priceOf : GoodIn wsX8_price wsX8_priceOf := goodIn_r _ [14, 15, 16, 17, 6, 18, 19, 20, 21, 22, 23, 24, 25, 26, 27, 28, 29, 30, 31, 32, 33, 34, 35, 36, 37, 38, 39, 40] (by decide +kernel) (by decide +kernel)
set_option maxRecDepth 20000 in
theorem gX8_price_X8_priceOf : GoodIn wsX8_price (wsV RX8 90 RX8 yX8_priceOf wsX8_priceOf) := goodIn_app (goodIn_of _ (by decide +kernel)) ggX8_price_X8_priceOf
theorem dX8_price_0 : decode cX8_price 0 = .ok (.iload_n 1, 1) := by decide +kernel
theorem dX8_price_1 : decode cX8_price 1 = .ok (.i2l, 1) := by decide +kernel
theorem dX8_price_2 : decode cX8_price 2 = .ok (.lconst 1, 1) := by decide +kernel
theorem dX8_price_3 : decode cX8_price 3 = .ok (.ldc2_w 73, 3) := by decide +kernel
theorem dX8_price_6 : decode cX8_price 6 = .ok (.invokestatic 30, 3) := by decide +kernel
theorem dX8_price_9 : decode cX8_price 9 = .ok (.ifCond .eq 26, 3) := by decide +kernel
theorem dX8_price_12 : decode cX8_price 12 = .ok (.iload_n 2, 1) := by decide +kernel
theorem dX8_price_13 : decode cX8_price 13 = .ok (.invokestatic 85, 3) := by decide +kernel
theorem dX8_price_16 : decode cX8_price 16 = .ok (.ifCond .eq 19, 3) := by decide +kernel
theorem dX8_price_19 : decode cX8_price 19 = .ok (.iload_n 3, 1) := by decide +kernel
theorem dX8_price_20 : decode cX8_price 20 = .ok (.i2l, 1) := by decide +kernel
theorem dX8_price_21 : decode cX8_price 21 = .ok (.lconst 1, 1) := by decide +kernel
theorem dX8_price_22 : decode cX8_price 22 = .ok (.ldc2_w 88, 3) := by decide +kernel
theorem dX8_price_25 : decode cX8_price 25 = .ok (.invokestatic 30, 3) := by decide +kernel
theorem dX8_price_28 : decode cX8_price 28 = .ok (.ifCond .eq 7, 3) := by decide +kernel
theorem dX8_price_31 : decode cX8_price 31 = .ok (.iconst 1, 1) := by decide +kernel
theorem dX8_price_32 : decode cX8_price 32 = .ok (.goto 4, 3) := by decide +kernel
theorem dX8_price_35 : decode cX8_price 35 = .ok (.iconst 0, 1) := by decide +kernel
theorem dX8_price_36 : decode cX8_price 36 = .ok (.istore 4, 2) := by decide +kernel
theorem dX8_price_38 : decode cX8_price 38 = .ok (.iload 4, 2) := by decide +kernel
theorem dX8_price_40 : decode cX8_price 40 = .ok (.ifCond .eq 20, 3) := by decide +kernel
theorem dX8_price_43 : decode cX8_price 43 = .ok (.aload_n 0, 1) := by decide +kernel
theorem dX8_price_44 : decode cX8_price 44 = .ok (.iload_n 1, 1) := by decide +kernel
theorem dX8_price_45 : decode cX8_price 45 = .ok (.iload_n 2, 1) := by decide +kernel
theorem dX8_price_46 : decode cX8_price 46 = .ok (.bipush 100, 2) := by decide +kernel
theorem dX8_price_48 : decode cX8_price 48 = .ok (.idiv, 1) := by decide +kernel
theorem dX8_price_49 : decode cX8_price 49 = .ok (.iload_n 2, 1) := by decide +kernel
theorem dX8_price_50 : decode cX8_price 50 = .ok (.bipush 100, 2) := by decide +kernel
theorem dX8_price_52 : decode cX8_price 52 = .ok (.irem, 1) := by decide +kernel
theorem dX8_price_53 : decode cX8_price 53 = .ok (.iload_n 3, 1) := by decide +kernel
theorem dX8_price_54 : decode cX8_price 54 = .ok (.invokevirtual 90, 3) := by decide +kernel
theorem dX8_price_57 : decode cX8_price 57 = .ok (.goto 5, 3) := by decide +kernel
theorem dX8_price_60 : decode cX8_price 60 = .ok (.ldc 61, 2) := by decide +kernel
theorem dX8_price_62 : decode cX8_price 62 = .ok (.ireturn, 1) := by decide +kernel
set_option maxRecDepth 20000 in
theorem ggX8_clashes_X8_of : GoodIn wsX8_clashes wsX8_of := goodIn_r _ [6, 1, 7, 8, 5, 9, 18, 19, 20, 21, 22, 23, 24, 25, 26, 27, 28, 29, 30, 31, 32, 33, 34, 35] (by decide +kernel) (by decide +kernel)
set_option maxRecDepth 20000 in
theorem gX8_clashes_X8_of : GoodIn wsX8_clashes (wsV RX8 42 RX8 yX8_of wsX8_of) := goodIn_app (goodIn_of _ (by decide +kernel)) ggX8_clashes_X8_of
set_option maxRecDepth 20000 in
theorem ggX8_clashes_X8_stateOf : GoodIn wsX8_clashes wsX8_stateOf := goodIn_r _ [13, 2, 3, 4, 5, 6, 1, 7, 8, 9, 18, 19, 20, 21, 22, 23, 24, 25, 26, 27, 28, 29, 30, 31, 32, 33, 34, 35] (by decide +kernel) (by decide +kernel)
set_option maxRecDepth 20000 in
theorem gX8_clashes_X8_stateOf : GoodIn wsX8_clashes (wsV RX8 94 RX8 yX8_stateOf wsX8_stateOf) := goodIn_app (goodIn_of _ (by decide +kernel)) ggX8_clashes_X8_stateOf
set_option maxRecDepth 20000 in
theorem ggX8_clashes_X8_dayOf : GoodIn wsX8_clashes wsX8_dayOf := goodIn_r _ [17, 2, 3, 4, 5, 6, 1, 7, 8, 9, 18, 19, 20, 21, 22, 23, 24, 25, 26, 27, 28, 29, 30, 31, 32, 33, 34, 35] (by decide +kernel) (by decide +kernel)
set_option maxRecDepth 20000 in
theorem gX8_clashes_X8_dayOf : GoodIn wsX8_clashes (wsV RX8 97 RX8 yX8_dayOf wsX8_dayOf) := goodIn_app (goodIn_of _ (by decide +kernel)) ggX8_clashes_X8_dayOf
theorem dX8_clashes_0 : decode cX8_clashes 0 = .ok (.iload_n 1, 1) := by decide +kernel
theorem dX8_clashes_1 : decode cX8_clashes 1 = .ok (.bipush 20, 2) := by decide +kernel
theorem dX8_clashes_3 : decode cX8_clashes 3 = .ok (.idiv, 1) := by decide +kernel
theorem dX8_clashes_4 : decode cX8_clashes 4 = .ok (.istore 7, 2) := by decide +kernel
theorem dX8_clashes_6 : decode cX8_clashes 6 = .ok (.aload_n 0, 1) := by decide +kernel
theorem dX8_clashes_7 : decode cX8_clashes 7 = .ok (.iload 7, 2) := by decide +kernel
theorem dX8_clashes_9 : decode cX8_clashes 9 = .ok (.iconst 0, 1) := by decide +kernel
theorem dX8_clashes_10 : decode cX8_clashes 10 = .ok (.invokevirtual 42, 3) := by decide +kernel
theorem dX8_clashes_13 : decode cX8_clashes 13 = .ok (.iload_n 2, 1) := by decide +kernel
theorem dX8_clashes_14 : decode cX8_clashes 14 = .ok (.if_icmp .ne 7, 3) := by decide +kernel
theorem dX8_clashes_17 : decode cX8_clashes 17 = .ok (.iconst 0, 1) := by decide +kernel
theorem dX8_clashes_18 : decode cX8_clashes 18 = .ok (.goto 9, 3) := by decide +kernel
theorem dX8_clashes_21 : decode cX8_clashes 21 = .ok (.aload_n 0, 1) := by decide +kernel
theorem dX8_clashes_22 : decode cX8_clashes 22 = .ok (.getfield 7, 3) := by decide +kernel
theorem dX8_clashes_25 : decode cX8_clashes 25 = .ok (.iconst 5, 1) := by decide +kernel
theorem dX8_clashes_26 : decode cX8_clashes 26 = .ok (.iaload, 1) := by decide +kernel
theorem dX8_clashes_27 : decode cX8_clashes 27 = .ok (.istore 8, 2) := by decide +kernel
theorem dX8_clashes_29 : decode cX8_clashes 29 = .ok (.aload_n 0, 1) := by decide +kernel
theorem dX8_clashes_30 : decode cX8_clashes 30 = .ok (.iload_n 1, 1) := by decide +kernel
theorem dX8_clashes_31 : decode cX8_clashes 31 = .ok (.invokevirtual 94, 3) := by decide +kernel
theorem dX8_clashes_34 : decode cX8_clashes 34 = .ok (.iconst 2, 1) := by decide +kernel
theorem dX8_clashes_35 : decode cX8_clashes 35 = .ok (.if_icmp .eq 29, 3) := by decide +kernel
theorem dX8_clashes_38 : decode cX8_clashes 38 = .ok (.aload_n 0, 1) := by decide +kernel
theorem dX8_clashes_39 : decode cX8_clashes 39 = .ok (.iload_n 1, 1) := by decide +kernel
theorem dX8_clashes_40 : decode cX8_clashes 40 = .ok (.invokevirtual 97, 3) := by decide +kernel
theorem dX8_clashes_43 : decode cX8_clashes 43 = .ok (.iload 4, 2) := by decide +kernel
theorem dX8_clashes_45 : decode cX8_clashes 45 = .ok (.if_icmp .ne 19, 3) := by decide +kernel
theorem dX8_clashes_48 : decode cX8_clashes 48 = .ok (.aload_n 0, 1) := by decide +kernel
theorem dX8_clashes_49 : decode cX8_clashes 49 = .ok (.iload 7, 2) := by decide +kernel
theorem dX8_clashes_51 : decode cX8_clashes 51 = .ok (.iconst 1, 1) := by decide +kernel
theorem dX8_clashes_52 : decode cX8_clashes 52 = .ok (.invokevirtual 42, 3) := by decide +kernel
theorem dX8_clashes_55 : decode cX8_clashes 55 = .ok (.iload_n 3, 1) := by decide +kernel
theorem dX8_clashes_56 : decode cX8_clashes 56 = .ok (.iand, 1) := by decide +kernel
theorem dX8_clashes_57 : decode cX8_clashes 57 = .ok (.ifCond .eq 7, 3) := by decide +kernel
theorem dX8_clashes_60 : decode cX8_clashes 60 = .ok (.iconst 1, 1) := by decide +kernel
theorem dX8_clashes_61 : decode cX8_clashes 61 = .ok (.goto 4, 3) := by decide +kernel
theorem dX8_clashes_64 : decode cX8_clashes 64 = .ok (.iconst 0, 1) := by decide +kernel
theorem dX8_clashes_65 : decode cX8_clashes 65 = .ok (.istore 9, 2) := by decide +kernel
theorem dX8_clashes_67 : decode cX8_clashes 67 = .ok (.iload 9, 2) := by decide +kernel
theorem dX8_clashes_69 : decode cX8_clashes 69 = .ok (.ifCond .eq 37, 3) := by decide +kernel
theorem dX8_clashes_72 : decode cX8_clashes 72 = .ok (.iload 5, 2) := by decide +kernel
theorem dX8_clashes_74 : decode cX8_clashes 74 = .ok (.aload_n 0, 1) := by decide +kernel
theorem dX8_clashes_75 : decode cX8_clashes 75 = .ok (.iload 7, 2) := by decide +kernel
theorem dX8_clashes_77 : decode cX8_clashes 77 = .ok (.iconst 3, 1) := by decide +kernel
theorem dX8_clashes_78 : decode cX8_clashes 78 = .ok (.invokevirtual 42, 3) := by decide +kernel
theorem dX8_clashes_81 : decode cX8_clashes 81 = .ok (.iload 8, 2) := by decide +kernel
theorem dX8_clashes_83 : decode cX8_clashes 83 = .ok (.iadd, 1) := by decide +kernel
theorem dX8_clashes_84 : decode cX8_clashes 84 = .ok (.if_icmp .ge 22, 3) := by decide +kernel
theorem dX8_clashes_87 : decode cX8_clashes 87 = .ok (.aload_n 0, 1) := by decide +kernel
theorem dX8_clashes_88 : decode cX8_clashes 88 = .ok (.iload 7, 2) := by decide +kernel
theorem dX8_clashes_90 : decode cX8_clashes 90 = .ok (.iconst 2, 1) := by decide +kernel
theorem dX8_clashes_91 : decode cX8_clashes 91 = .ok (.invokevirtual 42, 3) := by decide +kernel
theorem dX8_clashes_94 : decode cX8_clashes 94 = .ok (.iload 6, 2) := by decide +kernel
theorem dX8_clashes_96 : decode cX8_clashes 96 = .ok (.iload 8, 2) := by decide +kernel
theorem dX8_clashes_98 : decode cX8_clashes 98 = .ok (.iadd, 1) := by decide +kernel
theorem dX8_clashes_99 : decode cX8_clashes 99 = .ok (.if_icmp .ge 7, 3) := by decide +kernel
theorem dX8_clashes_102 : decode cX8_clashes 102 = .ok (.iconst 1, 1) := by decide +kernel
theorem dX8_clashes_103 : decode cX8_clashes 103 = .ok (.goto 4, 3) := by decide +kernel
theorem dX8_clashes_106 : decode cX8_clashes 106 = .ok (.iconst 0, 1) := by decide +kernel
theorem dX8_clashes_107 : decode cX8_clashes 107 = .ok (.ireturn, 1) := by decide +kernel
set_option maxRecDepth 20000 in
theorem ggX8_clashOn_X8_of : GoodIn wsX8_clashOn wsX8_of := goodIn_r _ [6, 1, 7, 8, 5, 9, 22, 23, 24, 25, 26, 27, 28, 29, 30, 31, 32, 33, 34, 35, 36, 37, 38, 39] (by decide +kernel) (by decide +kernel)
set_option maxRecDepth 20000 in
theorem gX8_clashOn_X8_of : GoodIn wsX8_clashOn (wsV RX8 42 RX8 yX8_of wsX8_of) := goodIn_app (goodIn_of _ (by decide +kernel)) ggX8_clashOn_X8_of
set_option maxRecDepth 20000 in
theorem ggX8_clashOn_X8_clashes : GoodIn wsX8_clashOn wsX8_clashes := goodIn_r _ [13, 1, 2, 3, 4, 5, 6, 7, 8, 9, 14, 15, 16, 17, 18, 19, 20, 21, 22, 23, 24, 25, 26, 27, 28, 29, 30, 31, 32, 33, 34, 35, 36, 37, 38, 39] (by decide +kernel) (by decide +kernel)
set_option maxRecDepth 20000 in
theorem gX8_clashOn_X8_clashes : GoodIn wsX8_clashOn (wsV RX8 100 RX8 yX8_clashes wsX8_clashes) := goodIn_app (goodIn_of _ (by decide +kernel)) ggX8_clashOn_X8_clashes
theorem dX8_clashOn_0 : decode cX8_clashOn 0 = .ok (.iconst (-1), 1) := by decide +kernel
theorem dX8_clashOn_1 : decode cX8_clashOn 1 = .ok (.istore 6, 2) := by decide +kernel
theorem dX8_clashOn_3 : decode cX8_clashOn 3 = .ok (.iconst 0, 1) := by decide +kernel
theorem dX8_clashOn_4 : decode cX8_clashOn 4 = .ok (.istore 7, 2) := by decide +kernel
theorem dX8_clashOn_6 : decode cX8_clashOn 6 = .ok (.iload 7, 2) := by decide +kernel
theorem dX8_clashOn_8 : decode cX8_clashOn 8 = .ok (.aload_n 0, 1) := by decide +kernel
theorem dX8_clashOn_9 : decode cX8_clashOn 9 = .ok (.getfield 7, 3) := by decide +kernel
theorem dX8_clashOn_12 : decode cX8_clashOn 12 = .ok (.bipush 10, 2) := by decide +kernel
theorem dX8_clashOn_14 : decode cX8_clashOn 14 = .ok (.iaload, 1) := by decide +kernel
theorem dX8_clashOn_15 : decode cX8_clashOn 15 = .ok (.if_icmp .ge 91, 3) := by decide +kernel
theorem dX8_clashOn_18 : decode cX8_clashOn 18 = .ok (.iconst 0, 1) := by decide +kernel
theorem dX8_clashOn_19 : decode cX8_clashOn 19 = .ok (.istore 8, 2) := by decide +kernel
theorem dX8_clashOn_21 : decode cX8_clashOn 21 = .ok (.iload 8, 2) := by decide +kernel
theorem dX8_clashOn_23 : decode cX8_clashOn 23 = .ok (.aload_n 0, 1) := by decide +kernel
theorem dX8_clashOn_24 : decode cX8_clashOn 24 = .ok (.iload 7, 2) := by decide +kernel
theorem dX8_clashOn_26 : decode cX8_clashOn 26 = .ok (.iconst 4, 1) := by decide +kernel
theorem dX8_clashOn_27 : decode cX8_clashOn 27 = .ok (.invokevirtual 42, 3) := by decide +kernel
theorem dX8_clashOn_30 : decode cX8_clashOn 30 = .ok (.if_icmp .ge 70, 3) := by decide +kernel
theorem dX8_clashOn_33 : decode cX8_clashOn 33 = .ok (.bipush 20, 2) := by decide +kernel
theorem dX8_clashOn_35 : decode cX8_clashOn 35 = .ok (.iload 7, 2) := by decide +kernel
theorem dX8_clashOn_37 : decode cX8_clashOn 37 = .ok (.imul, 1) := by decide +kernel
theorem dX8_clashOn_38 : decode cX8_clashOn 38 = .ok (.iload 8, 2) := by decide +kernel
theorem dX8_clashOn_40 : decode cX8_clashOn 40 = .ok (.iadd, 1) := by decide +kernel
theorem dX8_clashOn_41 : decode cX8_clashOn 41 = .ok (.istore 9, 2) := by decide +kernel
theorem dX8_clashOn_43 : decode cX8_clashOn 43 = .ok (.aload_n 0, 1) := by decide +kernel
theorem dX8_clashOn_44 : decode cX8_clashOn 44 = .ok (.iload 9, 2) := by decide +kernel
theorem dX8_clashOn_46 : decode cX8_clashOn 46 = .ok (.iload_n 1, 1) := by decide +kernel
theorem dX8_clashOn_47 : decode cX8_clashOn 47 = .ok (.iload_n 2, 1) := by decide +kernel
theorem dX8_clashOn_48 : decode cX8_clashOn 48 = .ok (.iload_n 3, 1) := by decide +kernel
theorem dX8_clashOn_49 : decode cX8_clashOn 49 = .ok (.iload 4, 2) := by decide +kernel
theorem dX8_clashOn_51 : decode cX8_clashOn 51 = .ok (.iload 5, 2) := by decide +kernel
theorem dX8_clashOn_53 : decode cX8_clashOn 53 = .ok (.invokevirtual 100, 3) := by decide +kernel
theorem dX8_clashOn_56 : decode cX8_clashOn 56 = .ok (.ifCond .eq 38, 3) := by decide +kernel
theorem dX8_clashOn_59 : decode cX8_clashOn 59 = .ok (.iload 6, 2) := by decide +kernel
theorem dX8_clashOn_61 : decode cX8_clashOn 61 = .ok (.iconst (-1), 1) := by decide +kernel
theorem dX8_clashOn_62 : decode cX8_clashOn 62 = .ok (.if_icmp .eq 23, 3) := by decide +kernel
theorem dX8_clashOn_65 : decode cX8_clashOn 65 = .ok (.aload_n 0, 1) := by decide +kernel
theorem dX8_clashOn_66 : decode cX8_clashOn 66 = .ok (.iload 7, 2) := by decide +kernel
theorem dX8_clashOn_68 : decode cX8_clashOn 68 = .ok (.iconst 2, 1) := by decide +kernel
theorem dX8_clashOn_69 : decode cX8_clashOn 69 = .ok (.invokevirtual 42, 3) := by decide +kernel
theorem dX8_clashOn_72 : decode cX8_clashOn 72 = .ok (.aload_n 0, 1) := by decide +kernel
theorem dX8_clashOn_73 : decode cX8_clashOn 73 = .ok (.iload 6, 2) := by decide +kernel
theorem dX8_clashOn_75 : decode cX8_clashOn 75 = .ok (.bipush 20, 2) := by decide +kernel
theorem dX8_clashOn_77 : decode cX8_clashOn 77 = .ok (.idiv, 1) := by decide +kernel
theorem dX8_clashOn_78 : decode cX8_clashOn 78 = .ok (.iconst 2, 1) := by decide +kernel
theorem dX8_clashOn_79 : decode cX8_clashOn 79 = .ok (.invokevirtual 42, 3) := by decide +kernel
theorem dX8_clashOn_82 : decode cX8_clashOn 82 = .ok (.if_icmp .ge 8, 3) := by decide +kernel
theorem dX8_clashOn_85 : decode cX8_clashOn 85 = .ok (.iload 9, 2) := by decide +kernel
theorem dX8_clashOn_87 : decode cX8_clashOn 87 = .ok (.goto 5, 3) := by decide +kernel
theorem dX8_clashOn_90 : decode cX8_clashOn 90 = .ok (.iload 6, 2) := by decide +kernel
theorem dX8_clashOn_92 : decode cX8_clashOn 92 = .ok (.istore 6, 2) := by decide +kernel
theorem dX8_clashOn_94 : decode cX8_clashOn 94 = .ok (.iinc 8 1, 3) := by decide +kernel
theorem dX8_clashOn_97 : decode cX8_clashOn 97 = .ok (.goto (-76), 3) := by decide +kernel
theorem dX8_clashOn_100 : decode cX8_clashOn 100 = .ok (.iinc 7 1, 3) := by decide +kernel
theorem dX8_clashOn_103 : decode cX8_clashOn 103 = .ok (.goto (-97), 3) := by decide +kernel
theorem dX8_clashOn_106 : decode cX8_clashOn 106 = .ok (.iload 6, 2) := by decide +kernel
theorem dX8_clashOn_108 : decode cX8_clashOn 108 = .ok (.ireturn, 1) := by decide +kernel
set_option maxRecDepth 20000 in
theorem ggX8_clashOfAll_X8_clashOn : GoodIn wsX8_clashOfAll wsX8_clashOn := goodIn_r _ [5, 6, 7, 8, 9, 4, 10, 11, 12, 13, 14, 15, 16, 17, 18, 19, 20, 21, 22, 23, 24, 25, 26, 27, 28, 29, 30, 31, 32, 33, 34, 35, 36, 37, 38, 39, 40, 41, 42, 43] (by decide +kernel) (by decide +kernel)
set_option maxRecDepth 20000 in
theorem gX8_clashOfAll_X8_clashOn : GoodIn wsX8_clashOfAll (wsV RX8 104 RX8 yX8_clashOn wsX8_clashOn) := goodIn_app (goodIn_of _ (by decide +kernel)) ggX8_clashOfAll_X8_clashOn
theorem dX8_clashOfAll_0 : decode cX8_clashOfAll 0 = .ok (.iconst (-1), 1) := by decide +kernel
theorem dX8_clashOfAll_1 : decode cX8_clashOfAll 1 = .ok (.istore 8, 2) := by decide +kernel
theorem dX8_clashOfAll_3 : decode cX8_clashOfAll 3 = .ok (.iconst 0, 1) := by decide +kernel
theorem dX8_clashOfAll_4 : decode cX8_clashOfAll 4 = .ok (.istore 9, 2) := by decide +kernel
theorem dX8_clashOfAll_6 : decode cX8_clashOfAll 6 = .ok (.iload 9, 2) := by decide +kernel
theorem dX8_clashOfAll_8 : decode cX8_clashOfAll 8 = .ok (.iload 6, 2) := by decide +kernel
theorem dX8_clashOfAll_10 : decode cX8_clashOfAll 10 = .ok (.if_icmp .ge 34, 3) := by decide +kernel
theorem dX8_clashOfAll_13 : decode cX8_clashOfAll 13 = .ok (.iload 8, 2) := by decide +kernel
theorem dX8_clashOfAll_15 : decode cX8_clashOfAll 15 = .ok (.iconst (-1), 1) := by decide +kernel
theorem dX8_clashOfAll_16 : decode cX8_clashOfAll 16 = .ok (.if_icmp .ne 28, 3) := by decide +kernel
theorem dX8_clashOfAll_19 : decode cX8_clashOfAll 19 = .ok (.aload_n 0, 1) := by decide +kernel
theorem dX8_clashOfAll_20 : decode cX8_clashOfAll 20 = .ok (.iload_n 1, 1) := by decide +kernel
theorem dX8_clashOfAll_21 : decode cX8_clashOfAll 21 = .ok (.iload_n 2, 1) := by decide +kernel
theorem dX8_clashOfAll_22 : decode cX8_clashOfAll 22 = .ok (.iload_n 3, 1) := by decide +kernel
theorem dX8_clashOfAll_23 : decode cX8_clashOfAll 23 = .ok (.iload 9, 2) := by decide +kernel
theorem dX8_clashOfAll_25 : decode cX8_clashOfAll 25 = .ok (.iload 7, 2) := by decide +kernel
theorem dX8_clashOfAll_27 : decode cX8_clashOfAll 27 = .ok (.imul, 1) := by decide +kernel
theorem dX8_clashOfAll_28 : decode cX8_clashOfAll 28 = .ok (.iadd, 1) := by decide +kernel
theorem dX8_clashOfAll_29 : decode cX8_clashOfAll 29 = .ok (.iload 4, 2) := by decide +kernel
theorem dX8_clashOfAll_31 : decode cX8_clashOfAll 31 = .ok (.iload 5, 2) := by decide +kernel
theorem dX8_clashOfAll_33 : decode cX8_clashOfAll 33 = .ok (.invokevirtual 104, 3) := by decide +kernel
theorem dX8_clashOfAll_36 : decode cX8_clashOfAll 36 = .ok (.istore 8, 2) := by decide +kernel
theorem dX8_clashOfAll_38 : decode cX8_clashOfAll 38 = .ok (.iinc 9 1, 3) := by decide +kernel
theorem dX8_clashOfAll_41 : decode cX8_clashOfAll 41 = .ok (.goto (-35), 3) := by decide +kernel
theorem dX8_clashOfAll_44 : decode cX8_clashOfAll 44 = .ok (.iload 8, 2) := by decide +kernel
theorem dX8_clashOfAll_46 : decode cX8_clashOfAll 46 = .ok (.ireturn, 1) := by decide +kernel
set_option maxRecDepth 20000 in
theorem ggX8_makes_X8_priceOf : GoodIn wsX8_makes wsX8_priceOf := goodIn_r _ [6, 7, 8, 9, 5, 10, 1, 11, 12, 13, 21, 22, 23, 24, 25, 26, 27, 28, 29, 30, 31, 32, 33, 34, 35, 36, 37, 38] (by decide +kernel) (by decide +kernel)
set_option maxRecDepth 20000 in
theorem gX8_makes_X8_priceOf : GoodIn wsX8_makes (wsV RX8 90 RX8 yX8_priceOf wsX8_priceOf) := goodIn_app (goodIn_of _ (by decide +kernel)) ggX8_makes_X8_priceOf
set_option maxRecDepth 20000 in
theorem ggX8_makes_X8_at : GoodIn wsX8_makes wsX8_at := goodIn_r _ [16] (by decide +kernel) (by decide +kernel)
set_option maxRecDepth 20000 in
theorem gX8_makes_X8_at : GoodIn wsX8_makes (va_wsS RX8 34 yX8_at wsX8_at) := goodIn_app (goodIn_of _ (by decide +kernel)) ggX8_makes_X8_at
set_option maxRecDepth 20000 in
theorem ggX8_makes_X8_discountOf : GoodIn wsX8_makes wsX8_discountOf := goodIn_r _ [13] (by decide +kernel) (by decide +kernel)
set_option maxRecDepth 20000 in
theorem gX8_makes_X8_discountOf : GoodIn wsX8_makes (va_wsS RX8 82 yX8_discountOf wsX8_discountOf) := goodIn_app (goodIn_of _ (by decide +kernel)) ggX8_makes_X8_discountOf
set_option maxRecDepth 20000 in
theorem ggX8_makes_X8_charges : GoodIn wsX8_makes wsX8_charges := goodIn_r _ [20, 1, 21, 22, 23, 24, 25, 26, 27, 28, 29, 30, 31, 32, 33, 34, 35, 36, 37, 38] (by decide +kernel) (by decide +kernel)
set_option maxRecDepth 20000 in
theorem gX8_makes_X8_charges : GoodIn wsX8_makes (wsV RX8 108 RX8 yX8_charges wsX8_charges) := goodIn_app (goodIn_of _ (by decide +kernel)) ggX8_makes_X8_charges
theorem dX8_makes_0 : decode cX8_makes 0 = .ok (.aload_n 0, 1) := by decide +kernel
theorem dX8_makes_1 : decode cX8_makes 1 = .ok (.getfield 7, 3) := by decide +kernel
theorem dX8_makes_4 : decode cX8_makes 4 = .ok (.bipush 10, 2) := by decide +kernel
theorem dX8_makes_6 : decode cX8_makes 6 = .ok (.iaload, 1) := by decide +kernel
theorem dX8_makes_7 : decode cX8_makes 7 = .ok (.istore 8, 2) := by decide +kernel
theorem dX8_makes_9 : decode cX8_makes 9 = .ok (.aload_n 0, 1) := by decide +kernel
theorem dX8_makes_10 : decode cX8_makes 10 = .ok (.iload_n 2, 1) := by decide +kernel
theorem dX8_makes_11 : decode cX8_makes 11 = .ok (.iload 4, 2) := by decide +kernel
theorem dX8_makes_13 : decode cX8_makes 13 = .ok (.iload 5, 2) := by decide +kernel
theorem dX8_makes_15 : decode cX8_makes 15 = .ok (.iload 6, 2) := by decide +kernel
theorem dX8_makes_17 : decode cX8_makes 17 = .ok (.invokevirtual 90, 3) := by decide +kernel
theorem dX8_makes_20 : decode cX8_makes 20 = .ok (.istore 9, 2) := by decide +kernel
theorem dX8_makes_22 : decode cX8_makes 22 = .ok (.aload_n 0, 1) := by decide +kernel
theorem dX8_makes_23 : decode cX8_makes 23 = .ok (.getfield 7, 3) := by decide +kernel
theorem dX8_makes_26 : decode cX8_makes 26 = .ok (.bipush 6, 2) := by decide +kernel
theorem dX8_makes_28 : decode cX8_makes 28 = .ok (.iaload, 1) := by decide +kernel
theorem dX8_makes_29 : decode cX8_makes 29 = .ok (.istore 10, 2) := by decide +kernel
theorem dX8_makes_31 : decode cX8_makes 31 = .ok (.iconst 0, 1) := by decide +kernel
theorem dX8_makes_32 : decode cX8_makes 32 = .ok (.istore 11, 2) := by decide +kernel
theorem dX8_makes_34 : decode cX8_makes 34 = .ok (.iload 11, 2) := by decide +kernel
theorem dX8_makes_36 : decode cX8_makes 36 = .ok (.bipush 64, 2) := by decide +kernel
theorem dX8_makes_38 : decode cX8_makes 38 = .ok (.if_icmp .ge 22, 3) := by decide +kernel
theorem dX8_makes_41 : decode cX8_makes 41 = .ok (.aload_n 0, 1) := by decide +kernel
theorem dX8_makes_42 : decode cX8_makes 42 = .ok (.getfield 7, 3) := by decide +kernel
theorem dX8_makes_45 : decode cX8_makes 45 = .ok (.iload 8, 2) := by decide +kernel
theorem dX8_makes_47 : decode cX8_makes 47 = .ok (.iload 11, 2) := by decide +kernel
theorem dX8_makes_49 : decode cX8_makes 49 = .ok (.invokestatic 34, 3) := by decide +kernel
theorem dX8_makes_52 : decode cX8_makes 52 = .ok (.iconst 0, 1) := by decide +kernel
theorem dX8_makes_53 : decode cX8_makes 53 = .ok (.iastore, 1) := by decide +kernel
theorem dX8_makes_54 : decode cX8_makes 54 = .ok (.iinc 11 1, 3) := by decide +kernel
theorem dX8_makes_57 : decode cX8_makes 57 = .ok (.goto (-23), 3) := by decide +kernel
theorem dX8_makes_60 : decode cX8_makes 60 = .ok (.aload_n 0, 1) := by decide +kernel
theorem dX8_makes_61 : decode cX8_makes 61 = .ok (.getfield 7, 3) := by decide +kernel
theorem dX8_makes_64 : decode cX8_makes 64 = .ok (.iload 8, 2) := by decide +kernel
theorem dX8_makes_66 : decode cX8_makes 66 = .ok (.iconst 0, 1) := by decide +kernel
theorem dX8_makes_67 : decode cX8_makes 67 = .ok (.invokestatic 34, 3) := by decide +kernel
theorem dX8_makes_70 : decode cX8_makes 70 = .ok (.iload_n 1, 1) := by decide +kernel
theorem dX8_makes_71 : decode cX8_makes 71 = .ok (.iastore, 1) := by decide +kernel
theorem dX8_makes_72 : decode cX8_makes 72 = .ok (.aload_n 0, 1) := by decide +kernel
theorem dX8_makes_73 : decode cX8_makes 73 = .ok (.getfield 7, 3) := by decide +kernel
theorem dX8_makes_76 : decode cX8_makes 76 = .ok (.iload 8, 2) := by decide +kernel
theorem dX8_makes_78 : decode cX8_makes 78 = .ok (.iconst 1, 1) := by decide +kernel
theorem dX8_makes_79 : decode cX8_makes 79 = .ok (.invokestatic 34, 3) := by decide +kernel
theorem dX8_makes_82 : decode cX8_makes 82 = .ok (.iload_n 2, 1) := by decide +kernel
theorem dX8_makes_83 : decode cX8_makes 83 = .ok (.iastore, 1) := by decide +kernel
theorem dX8_makes_84 : decode cX8_makes 84 = .ok (.aload_n 0, 1) := by decide +kernel
theorem dX8_makes_85 : decode cX8_makes 85 = .ok (.getfield 7, 3) := by decide +kernel
theorem dX8_makes_88 : decode cX8_makes 88 = .ok (.iload 8, 2) := by decide +kernel
theorem dX8_makes_90 : decode cX8_makes 90 = .ok (.iconst 2, 1) := by decide +kernel
theorem dX8_makes_91 : decode cX8_makes 91 = .ok (.invokestatic 34, 3) := by decide +kernel
theorem dX8_makes_94 : decode cX8_makes 94 = .ok (.iload 4, 2) := by decide +kernel
theorem dX8_makes_96 : decode cX8_makes 96 = .ok (.iastore, 1) := by decide +kernel
theorem dX8_makes_97 : decode cX8_makes 97 = .ok (.aload_n 0, 1) := by decide +kernel
theorem dX8_makes_98 : decode cX8_makes 98 = .ok (.getfield 7, 3) := by decide +kernel
theorem dX8_makes_101 : decode cX8_makes 101 = .ok (.iload 8, 2) := by decide +kernel
theorem dX8_makes_103 : decode cX8_makes 103 = .ok (.iconst 3, 1) := by decide +kernel
theorem dX8_makes_104 : decode cX8_makes 104 = .ok (.invokestatic 34, 3) := by decide +kernel
theorem dX8_makes_107 : decode cX8_makes 107 = .ok (.iload 5, 2) := by decide +kernel
theorem dX8_makes_109 : decode cX8_makes 109 = .ok (.iastore, 1) := by decide +kernel
theorem dX8_makes_110 : decode cX8_makes 110 = .ok (.aload_n 0, 1) := by decide +kernel
theorem dX8_makes_111 : decode cX8_makes 111 = .ok (.getfield 7, 3) := by decide +kernel
theorem dX8_makes_114 : decode cX8_makes 114 = .ok (.iload 8, 2) := by decide +kernel
theorem dX8_makes_116 : decode cX8_makes 116 = .ok (.iconst 4, 1) := by decide +kernel
theorem dX8_makes_117 : decode cX8_makes 117 = .ok (.invokestatic 34, 3) := by decide +kernel
theorem dX8_makes_120 : decode cX8_makes 120 = .ok (.iload 6, 2) := by decide +kernel
theorem dX8_makes_122 : decode cX8_makes 122 = .ok (.iastore, 1) := by decide +kernel
theorem dX8_makes_123 : decode cX8_makes 123 = .ok (.aload_n 0, 1) := by decide +kernel
theorem dX8_makes_124 : decode cX8_makes 124 = .ok (.getfield 7, 3) := by decide +kernel
theorem dX8_makes_127 : decode cX8_makes 127 = .ok (.iload 8, 2) := by decide +kernel
theorem dX8_makes_129 : decode cX8_makes 129 = .ok (.iconst 5, 1) := by decide +kernel
theorem dX8_makes_130 : decode cX8_makes 130 = .ok (.invokestatic 34, 3) := by decide +kernel
theorem dX8_makes_133 : decode cX8_makes 133 = .ok (.iload_n 3, 1) := by decide +kernel
theorem dX8_makes_134 : decode cX8_makes 134 = .ok (.iastore, 1) := by decide +kernel
theorem dX8_makes_135 : decode cX8_makes 135 = .ok (.aload_n 0, 1) := by decide +kernel
theorem dX8_makes_136 : decode cX8_makes 136 = .ok (.getfield 7, 3) := by decide +kernel
theorem dX8_makes_139 : decode cX8_makes 139 = .ok (.iload 8, 2) := by decide +kernel
theorem dX8_makes_141 : decode cX8_makes 141 = .ok (.bipush 6, 2) := by decide +kernel
theorem dX8_makes_143 : decode cX8_makes 143 = .ok (.invokestatic 34, 3) := by decide +kernel
theorem dX8_makes_146 : decode cX8_makes 146 = .ok (.iload 7, 2) := by decide +kernel
theorem dX8_makes_148 : decode cX8_makes 148 = .ok (.iastore, 1) := by decide +kernel
theorem dX8_makes_149 : decode cX8_makes 149 = .ok (.aload_n 0, 1) := by decide +kernel
theorem dX8_makes_150 : decode cX8_makes 150 = .ok (.getfield 7, 3) := by decide +kernel
theorem dX8_makes_153 : decode cX8_makes 153 = .ok (.iload 8, 2) := by decide +kernel
theorem dX8_makes_155 : decode cX8_makes 155 = .ok (.bipush 7, 2) := by decide +kernel
theorem dX8_makes_157 : decode cX8_makes 157 = .ok (.invokestatic 34, 3) := by decide +kernel
theorem dX8_makes_160 : decode cX8_makes 160 = .ok (.iload 9, 2) := by decide +kernel
theorem dX8_makes_162 : decode cX8_makes 162 = .ok (.iastore, 1) := by decide +kernel
theorem dX8_makes_163 : decode cX8_makes 163 = .ok (.aload_n 0, 1) := by decide +kernel
theorem dX8_makes_164 : decode cX8_makes 164 = .ok (.getfield 7, 3) := by decide +kernel
theorem dX8_makes_167 : decode cX8_makes 167 = .ok (.iload 8, 2) := by decide +kernel
theorem dX8_makes_169 : decode cX8_makes 169 = .ok (.bipush 8, 2) := by decide +kernel
theorem dX8_makes_171 : decode cX8_makes 171 = .ok (.invokestatic 34, 3) := by decide +kernel
theorem dX8_makes_174 : decode cX8_makes 174 = .ok (.iload 6, 2) := by decide +kernel
theorem dX8_makes_176 : decode cX8_makes 176 = .ok (.invokestatic 82, 3) := by decide +kernel
theorem dX8_makes_179 : decode cX8_makes 179 = .ok (.iastore, 1) := by decide +kernel
theorem dX8_makes_180 : decode cX8_makes 180 = .ok (.aload_n 0, 1) := by decide +kernel
theorem dX8_makes_181 : decode cX8_makes 181 = .ok (.getfield 7, 3) := by decide +kernel
theorem dX8_makes_184 : decode cX8_makes 184 = .ok (.iload 8, 2) := by decide +kernel
theorem dX8_makes_186 : decode cX8_makes 186 = .ok (.bipush 9, 2) := by decide +kernel
theorem dX8_makes_188 : decode cX8_makes 188 = .ok (.invokestatic 34, 3) := by decide +kernel
theorem dX8_makes_191 : decode cX8_makes 191 = .ok (.iload 10, 2) := by decide +kernel
theorem dX8_makes_193 : decode cX8_makes 193 = .ok (.iastore, 1) := by decide +kernel
theorem dX8_makes_194 : decode cX8_makes 194 = .ok (.aload_n 0, 1) := by decide +kernel
theorem dX8_makes_195 : decode cX8_makes 195 = .ok (.iload_n 1, 1) := by decide +kernel
theorem dX8_makes_196 : decode cX8_makes 196 = .ok (.iload 9, 2) := by decide +kernel
theorem dX8_makes_198 : decode cX8_makes 198 = .ok (.iload 10, 2) := by decide +kernel
theorem dX8_makes_200 : decode cX8_makes 200 = .ok (.iadd, 1) := by decide +kernel
theorem dX8_makes_201 : decode cX8_makes 201 = .ok (.invokevirtual 108, 3) := by decide +kernel
theorem dX8_makes_204 : decode cX8_makes 204 = .ok (.aload_n 0, 1) := by decide +kernel
theorem dX8_makes_205 : decode cX8_makes 205 = .ok (.getfield 7, 3) := by decide +kernel
theorem dX8_makes_208 : decode cX8_makes 208 = .ok (.bipush 11, 2) := by decide +kernel
theorem dX8_makes_210 : decode cX8_makes 210 = .ok (.dup2, 1) := by decide +kernel
theorem dX8_makes_211 : decode cX8_makes 211 = .ok (.iaload, 1) := by decide +kernel
theorem dX8_makes_212 : decode cX8_makes 212 = .ok (.iload 9, 2) := by decide +kernel
theorem dX8_makes_214 : decode cX8_makes 214 = .ok (.iadd, 1) := by decide +kernel
theorem dX8_makes_215 : decode cX8_makes 215 = .ok (.iastore, 1) := by decide +kernel
theorem dX8_makes_216 : decode cX8_makes 216 = .ok (.aload_n 0, 1) := by decide +kernel
theorem dX8_makes_217 : decode cX8_makes 217 = .ok (.getfield 7, 3) := by decide +kernel
theorem dX8_makes_220 : decode cX8_makes 220 = .ok (.bipush 13, 2) := by decide +kernel
theorem dX8_makes_222 : decode cX8_makes 222 = .ok (.dup2, 1) := by decide +kernel
theorem dX8_makes_223 : decode cX8_makes 223 = .ok (.iaload, 1) := by decide +kernel
theorem dX8_makes_224 : decode cX8_makes 224 = .ok (.iload 10, 2) := by decide +kernel
theorem dX8_makes_226 : decode cX8_makes 226 = .ok (.iadd, 1) := by decide +kernel
theorem dX8_makes_227 : decode cX8_makes 227 = .ok (.iastore, 1) := by decide +kernel
theorem dX8_makes_228 : decode cX8_makes 228 = .ok (.aload_n 0, 1) := by decide +kernel
theorem dX8_makes_229 : decode cX8_makes 229 = .ok (.getfield 7, 3) := by decide +kernel
theorem dX8_makes_232 : decode cX8_makes 232 = .ok (.bipush 14, 2) := by decide +kernel
theorem dX8_makes_234 : decode cX8_makes 234 = .ok (.dup2, 1) := by decide +kernel
theorem dX8_makes_235 : decode cX8_makes 235 = .ok (.iaload, 1) := by decide +kernel
theorem dX8_makes_236 : decode cX8_makes 236 = .ok (.iload 10, 2) := by decide +kernel
theorem dX8_makes_238 : decode cX8_makes 238 = .ok (.iadd, 1) := by decide +kernel
theorem dX8_makes_239 : decode cX8_makes 239 = .ok (.iastore, 1) := by decide +kernel
theorem dX8_makes_240 : decode cX8_makes 240 = .ok (.aload_n 0, 1) := by decide +kernel
theorem dX8_makes_241 : decode cX8_makes 241 = .ok (.getfield 7, 3) := by decide +kernel
theorem dX8_makes_244 : decode cX8_makes 244 = .ok (.bipush 10, 2) := by decide +kernel
theorem dX8_makes_246 : decode cX8_makes 246 = .ok (.dup2, 1) := by decide +kernel
theorem dX8_makes_247 : decode cX8_makes 247 = .ok (.iaload, 1) := by decide +kernel
theorem dX8_makes_248 : decode cX8_makes 248 = .ok (.iconst 1, 1) := by decide +kernel
theorem dX8_makes_249 : decode cX8_makes 249 = .ok (.iadd, 1) := by decide +kernel
theorem dX8_makes_250 : decode cX8_makes 250 = .ok (.iastore, 1) := by decide +kernel
theorem dX8_makes_251 : decode cX8_makes 251 = .ok (.return_, 1) := by decide +kernel
set_option maxRecDepth 20000 in
theorem ggX8_isSeries_X8_in : GoodIn wsX8_isSeries wsX8_in := goodIn_r _ [8] (by decide +kernel) (by decide +kernel)
set_option maxRecDepth 20000 in
theorem gX8_isSeries_X8_in : GoodIn wsX8_isSeries (va_wsS RX8 30 yX8_in wsX8_in) := goodIn_app (goodIn_of _ (by decide +kernel)) ggX8_isSeries_X8_in
set_option maxRecDepth 20000 in
theorem ggX8_isSeries_X8_areHours : GoodIn wsX8_isSeries wsX8_areHours := goodIn_r _ [11] (by decide +kernel) (by decide +kernel)
set_option maxRecDepth 20000 in
theorem gX8_isSeries_X8_areHours : GoodIn wsX8_isSeries (va_wsS RX8 85 yX8_areHours wsX8_areHours) := goodIn_app (goodIn_of _ (by decide +kernel)) ggX8_isSeries_X8_areHours
theorem dX8_isSeries_0 : decode cX8_isSeries 0 = .ok (.iload_n 1, 1) := by decide +kernel
theorem dX8_isSeries_1 : decode cX8_isSeries 1 = .ok (.i2l, 1) := by decide +kernel
theorem dX8_isSeries_2 : decode cX8_isSeries 2 = .ok (.aload_n 0, 1) := by decide +kernel
theorem dX8_isSeries_3 : decode cX8_isSeries 3 = .ok (.getfield 7, 3) := by decide +kernel
theorem dX8_isSeries_6 : decode cX8_isSeries 6 = .ok (.iconst 0, 1) := by decide +kernel
theorem dX8_isSeries_7 : decode cX8_isSeries 7 = .ok (.iaload, 1) := by decide +kernel
theorem dX8_isSeries_8 : decode cX8_isSeries 8 = .ok (.i2l, 1) := by decide +kernel
theorem dX8_isSeries_9 : decode cX8_isSeries 9 = .ok (.ldc2_w 111, 3) := by decide +kernel
theorem dX8_isSeries_12 : decode cX8_isSeries 12 = .ok (.invokestatic 30, 3) := by decide +kernel
theorem dX8_isSeries_15 : decode cX8_isSeries 15 = .ok (.ifCond .eq 39, 3) := by decide +kernel
theorem dX8_isSeries_18 : decode cX8_isSeries 18 = .ok (.iload_n 2, 1) := by decide +kernel
theorem dX8_isSeries_19 : decode cX8_isSeries 19 = .ok (.invokestatic 85, 3) := by decide +kernel
theorem dX8_isSeries_22 : decode cX8_isSeries 22 = .ok (.ifCond .eq 32, 3) := by decide +kernel
theorem dX8_isSeries_25 : decode cX8_isSeries 25 = .ok (.iload_n 3, 1) := by decide +kernel
theorem dX8_isSeries_26 : decode cX8_isSeries 26 = .ok (.i2l, 1) := by decide +kernel
theorem dX8_isSeries_27 : decode cX8_isSeries 27 = .ok (.lconst 1, 1) := by decide +kernel
theorem dX8_isSeries_28 : decode cX8_isSeries 28 = .ok (.ldc2_w 88, 3) := by decide +kernel
theorem dX8_isSeries_31 : decode cX8_isSeries 31 = .ok (.invokestatic 30, 3) := by decide +kernel
theorem dX8_isSeries_34 : decode cX8_isSeries 34 = .ok (.ifCond .eq 20, 3) := by decide +kernel
theorem dX8_isSeries_37 : decode cX8_isSeries 37 = .ok (.iload 4, 2) := by decide +kernel
theorem dX8_isSeries_39 : decode cX8_isSeries 39 = .ok (.i2l, 1) := by decide +kernel
theorem dX8_isSeries_40 : decode cX8_isSeries 40 = .ok (.lconst 1, 1) := by decide +kernel
theorem dX8_isSeries_41 : decode cX8_isSeries 41 = .ok (.ldc2_w 113, 3) := by decide +kernel
theorem dX8_isSeries_44 : decode cX8_isSeries 44 = .ok (.invokestatic 30, 3) := by decide +kernel
theorem dX8_isSeries_47 : decode cX8_isSeries 47 = .ok (.ifCond .eq 7, 3) := by decide +kernel
theorem dX8_isSeries_50 : decode cX8_isSeries 50 = .ok (.iconst 1, 1) := by decide +kernel
theorem dX8_isSeries_51 : decode cX8_isSeries 51 = .ok (.goto 4, 3) := by decide +kernel
theorem dX8_isSeries_54 : decode cX8_isSeries 54 = .ok (.iconst 0, 1) := by decide +kernel
theorem dX8_isSeries_55 : decode cX8_isSeries 55 = .ok (.ireturn, 1) := by decide +kernel
set_option maxRecDepth 20000 in
theorem ggX8_hire_X8_isHirer : GoodIn wsX8_hire wsX8_isHirer := goodIn_r _ [11, 5, 12, 13, 10, 14, 77, 78, 79, 80, 81, 82, 83, 84, 85, 86, 87, 88, 89, 90, 91, 92, 93, 94] (by decide +kernel) (by decide +kernel)
set_option maxRecDepth 20000 in
theorem gX8_hire_X8_isHirer : GoodIn wsX8_hire (wsV RX8 56 RX8 yX8_isHirer wsX8_isHirer) := goodIn_app (goodIn_of _ (by decide +kernel)) ggX8_hire_X8_isHirer
set_option maxRecDepth 20000 in
theorem ggX8_hire_X8_in : GoodIn wsX8_hire wsX8_in := goodIn_r _ [14] (by decide +kernel) (by decide +kernel)
set_option maxRecDepth 20000 in
theorem gX8_hire_X8_in : GoodIn wsX8_hire (va_wsS RX8 30 yX8_in wsX8_in) := goodIn_app (goodIn_of _ (by decide +kernel)) ggX8_hire_X8_in
set_option maxRecDepth 20000 in
theorem ggX8_hire_X8_isSeries : GoodIn wsX8_hire wsX8_isSeries := goodIn_r _ [18, 5, 19, 20, 21, 12, 13, 10, 14, 22, 23, 24, 77, 78, 79, 80, 81, 82, 83, 84, 85, 86, 87, 88, 89, 90, 91, 92, 93, 94] (by decide +kernel) (by decide +kernel)
set_option maxRecDepth 20000 in
theorem gX8_hire_X8_isSeries : GoodIn wsX8_hire (wsV RX8 115 RX8 yX8_isSeries wsX8_isSeries) := goodIn_app (goodIn_of _ (by decide +kernel)) ggX8_hire_X8_isSeries
set_option maxRecDepth 20000 in
theorem ggX8_hire_X8_clashOfAll : GoodIn wsX8_hire wsX8_clashOfAll := goodIn_r _ [28, 29, 30, 31, 10, 32, 5, 33, 34, 35, 36, 37, 38, 39, 40, 41, 42, 43, 44, 45, 46, 47, 48, 49, 50, 51, 77, 78, 79, 80, 81, 82, 83, 84, 85, 86, 87, 88, 89, 90, 91, 92, 93, 94] (by decide +kernel) (by decide +kernel)
set_option maxRecDepth 20000 in
theorem gX8_hire_X8_clashOfAll : GoodIn wsX8_hire (wsV RX8 120 RX8 yX8_clashOfAll wsX8_clashOfAll) := goodIn_app (goodIn_of _ (by decide +kernel)) ggX8_hire_X8_clashOfAll
set_option maxRecDepth 20000 in
theorem ggX8_hire_X8_save : GoodIn wsX8_hire wsX8_save := goodIn_r _ [55, 56, 57, 5, 77, 78, 79, 80, 81, 82, 83, 84, 85, 86, 87, 88, 89, 90, 91, 92, 93, 94] (by decide +kernel) (by decide +kernel)
set_option maxRecDepth 20000 in
theorem gX8_hire_X8_save : GoodIn wsX8_hire (wsV RX8 46 RX8 yX8_save wsX8_save) := goodIn_app (goodIn_of _ (by decide +kernel)) ggX8_hire_X8_save
set_option maxRecDepth 20000 in
theorem ggX8_hire_X8_makes : GoodIn wsX8_hire wsX8_makes := goodIn_r _ [61, 5, 62, 63, 64, 10, 65, 66, 67, 68, 69, 70, 71, 72, 37, 38, 39, 73, 74, 75, 76, 77, 78, 79, 80, 81, 82, 83, 84, 85, 86, 87, 88, 89, 90, 91, 92, 93, 94] (by decide +kernel) (by decide +kernel)
set_option maxRecDepth 20000 in
theorem gX8_hire_X8_makes : GoodIn wsX8_hire (wsV RX8 124 RX8 yX8_makes wsX8_makes) := goodIn_app (goodIn_of _ (by decide +kernel)) ggX8_hire_X8_makes
theorem dX8_hire_0 : decode cX8_hire 0 = .ok (.aload_n 0, 1) := by decide +kernel
theorem dX8_hire_1 : decode cX8_hire 1 = .ok (.iload_n 1, 1) := by decide +kernel
theorem dX8_hire_2 : decode cX8_hire 2 = .ok (.invokevirtual 56, 3) := by decide +kernel
theorem dX8_hire_5 : decode cX8_hire 5 = .ok (.ifCond .eq 29, 3) := by decide +kernel
theorem dX8_hire_8 : decode cX8_hire 8 = .ok (.iload_n 2, 1) := by decide +kernel
theorem dX8_hire_9 : decode cX8_hire 9 = .ok (.i2l, 1) := by decide +kernel
theorem dX8_hire_10 : decode cX8_hire 10 = .ok (.lconst 1, 1) := by decide +kernel
theorem dX8_hire_11 : decode cX8_hire 11 = .ok (.ldc2_w 73, 3) := by decide +kernel
theorem dX8_hire_14 : decode cX8_hire 14 = .ok (.invokestatic 30, 3) := by decide +kernel
theorem dX8_hire_17 : decode cX8_hire 17 = .ok (.ifCond .eq 17, 3) := by decide +kernel
theorem dX8_hire_20 : decode cX8_hire 20 = .ok (.aload_n 0, 1) := by decide +kernel
theorem dX8_hire_21 : decode cX8_hire 21 = .ok (.iload_n 3, 1) := by decide +kernel
theorem dX8_hire_22 : decode cX8_hire 22 = .ok (.iload 4, 2) := by decide +kernel
theorem dX8_hire_24 : decode cX8_hire 24 = .ok (.iload 5, 2) := by decide +kernel
theorem dX8_hire_26 : decode cX8_hire 26 = .ok (.iload 6, 2) := by decide +kernel
theorem dX8_hire_28 : decode cX8_hire 28 = .ok (.invokevirtual 115, 3) := by decide +kernel
theorem dX8_hire_31 : decode cX8_hire 31 = .ok (.ifCond .ne 6, 3) := by decide +kernel
theorem dX8_hire_34 : decode cX8_hire 34 = .ok (.ldc 61, 2) := by decide +kernel
theorem dX8_hire_36 : decode cX8_hire 36 = .ok (.ireturn, 1) := by decide +kernel
theorem dX8_hire_37 : decode cX8_hire 37 = .ok (.iload_n 3, 1) := by decide +kernel
theorem dX8_hire_38 : decode cX8_hire 38 = .ok (.iload 5, 2) := by decide +kernel
theorem dX8_hire_40 : decode cX8_hire 40 = .ok (.iconst 1, 1) := by decide +kernel
theorem dX8_hire_41 : decode cX8_hire 41 = .ok (.isub, 1) := by decide +kernel
theorem dX8_hire_42 : decode cX8_hire 42 = .ok (.iload 6, 2) := by decide +kernel
theorem dX8_hire_44 : decode cX8_hire 44 = .ok (.imul, 1) := by decide +kernel
theorem dX8_hire_45 : decode cX8_hire 45 = .ok (.iadd, 1) := by decide +kernel
theorem dX8_hire_46 : decode cX8_hire 46 = .ok (.sipush 364, 3) := by decide +kernel
theorem dX8_hire_49 : decode cX8_hire 49 = .ok (.if_icmp .le 6, 3) := by decide +kernel
theorem dX8_hire_52 : decode cX8_hire 52 = .ok (.ldc 119, 2) := by decide +kernel
theorem dX8_hire_54 : decode cX8_hire 54 = .ok (.ireturn, 1) := by decide +kernel
theorem dX8_hire_55 : decode cX8_hire 55 = .ok (.aload_n 0, 1) := by decide +kernel
theorem dX8_hire_56 : decode cX8_hire 56 = .ok (.iload_n 1, 1) := by decide +kernel
theorem dX8_hire_57 : decode cX8_hire 57 = .ok (.iload_n 2, 1) := by decide +kernel
theorem dX8_hire_58 : decode cX8_hire 58 = .ok (.iload_n 3, 1) := by decide +kernel
theorem dX8_hire_59 : decode cX8_hire 59 = .ok (.iload 4, 2) := by decide +kernel
theorem dX8_hire_61 : decode cX8_hire 61 = .ok (.bipush 100, 2) := by decide +kernel
theorem dX8_hire_63 : decode cX8_hire 63 = .ok (.idiv, 1) := by decide +kernel
theorem dX8_hire_64 : decode cX8_hire 64 = .ok (.iload 4, 2) := by decide +kernel
theorem dX8_hire_66 : decode cX8_hire 66 = .ok (.bipush 100, 2) := by decide +kernel
theorem dX8_hire_68 : decode cX8_hire 68 = .ok (.irem, 1) := by decide +kernel
theorem dX8_hire_69 : decode cX8_hire 69 = .ok (.iload 5, 2) := by decide +kernel
theorem dX8_hire_71 : decode cX8_hire 71 = .ok (.iload 6, 2) := by decide +kernel
theorem dX8_hire_73 : decode cX8_hire 73 = .ok (.invokevirtual 120, 3) := by decide +kernel
theorem dX8_hire_76 : decode cX8_hire 76 = .ok (.istore 7, 2) := by decide +kernel
theorem dX8_hire_78 : decode cX8_hire 78 = .ok (.iload 7, 2) := by decide +kernel
theorem dX8_hire_80 : decode cX8_hire 80 = .ok (.iconst (-1), 1) := by decide +kernel
theorem dX8_hire_81 : decode cX8_hire 81 = .ok (.if_icmp .eq 12, 3) := by decide +kernel
theorem dX8_hire_84 : decode cX8_hire 84 = .ok (.aload_n 0, 1) := by decide +kernel
theorem dX8_hire_85 : decode cX8_hire 85 = .ok (.iload 7, 2) := by decide +kernel
theorem dX8_hire_87 : decode cX8_hire 87 = .ok (.putfield 20, 3) := by decide +kernel
theorem dX8_hire_90 : decode cX8_hire 90 = .ok (.ldc 119, 2) := by decide +kernel
theorem dX8_hire_92 : decode cX8_hire 92 = .ok (.ireturn, 1) := by decide +kernel
theorem dX8_hire_93 : decode cX8_hire 93 = .ok (.aload_n 0, 1) := by decide +kernel
theorem dX8_hire_94 : decode cX8_hire 94 = .ok (.getfield 7, 3) := by decide +kernel
theorem dX8_hire_97 : decode cX8_hire 97 = .ok (.bipush 10, 2) := by decide +kernel
theorem dX8_hire_99 : decode cX8_hire 99 = .ok (.iaload, 1) := by decide +kernel
theorem dX8_hire_100 : decode cX8_hire 100 = .ok (.bipush 12, 2) := by decide +kernel
theorem dX8_hire_102 : decode cX8_hire 102 = .ok (.if_icmp .ne 6, 3) := by decide +kernel
theorem dX8_hire_105 : decode cX8_hire 105 = .ok (.ldc 45, 2) := by decide +kernel
theorem dX8_hire_107 : decode cX8_hire 107 = .ok (.ireturn, 1) := by decide +kernel
theorem dX8_hire_108 : decode cX8_hire 108 = .ok (.aload_n 0, 1) := by decide +kernel
theorem dX8_hire_109 : decode cX8_hire 109 = .ok (.invokevirtual 46, 3) := by decide +kernel
theorem dX8_hire_112 : decode cX8_hire 112 = .ok (.aload_n 0, 1) := by decide +kernel
theorem dX8_hire_113 : decode cX8_hire 113 = .ok (.iload_n 1, 1) := by decide +kernel
theorem dX8_hire_114 : decode cX8_hire 114 = .ok (.iload_n 2, 1) := by decide +kernel
theorem dX8_hire_115 : decode cX8_hire 115 = .ok (.iload_n 3, 1) := by decide +kernel
theorem dX8_hire_116 : decode cX8_hire 116 = .ok (.iload 4, 2) := by decide +kernel
theorem dX8_hire_118 : decode cX8_hire 118 = .ok (.bipush 100, 2) := by decide +kernel
theorem dX8_hire_120 : decode cX8_hire 120 = .ok (.idiv, 1) := by decide +kernel
theorem dX8_hire_121 : decode cX8_hire 121 = .ok (.iload 4, 2) := by decide +kernel
theorem dX8_hire_123 : decode cX8_hire 123 = .ok (.bipush 100, 2) := by decide +kernel
theorem dX8_hire_125 : decode cX8_hire 125 = .ok (.irem, 1) := by decide +kernel
theorem dX8_hire_126 : decode cX8_hire 126 = .ok (.iload 5, 2) := by decide +kernel
theorem dX8_hire_128 : decode cX8_hire 128 = .ok (.iload 6, 2) := by decide +kernel
theorem dX8_hire_130 : decode cX8_hire 130 = .ok (.invokevirtual 124, 3) := by decide +kernel
theorem dX8_hire_133 : decode cX8_hire 133 = .ok (.aload_n 0, 1) := by decide +kernel
theorem dX8_hire_134 : decode cX8_hire 134 = .ok (.getfield 7, 3) := by decide +kernel
theorem dX8_hire_137 : decode cX8_hire 137 = .ok (.bipush 10, 2) := by decide +kernel
theorem dX8_hire_139 : decode cX8_hire 139 = .ok (.iaload, 1) := by decide +kernel
theorem dX8_hire_140 : decode cX8_hire 140 = .ok (.iconst 1, 1) := by decide +kernel
theorem dX8_hire_141 : decode cX8_hire 141 = .ok (.isub, 1) := by decide +kernel
theorem dX8_hire_142 : decode cX8_hire 142 = .ok (.ireturn, 1) := by decide +kernel
theorem dX8_clash_0 : decode cX8_clash 0 = .ok (.aload_n 0, 1) := by decide +kernel
theorem dX8_clash_1 : decode cX8_clash 1 = .ok (.getfield 20, 3) := by decide +kernel
theorem dX8_clash_4 : decode cX8_clash 4 = .ok (.ireturn, 1) := by decide +kernel
set_option maxRecDepth 20000 in
theorem ggX8_manyOf_X8_of : GoodIn wsX8_manyOf wsX8_of := goodIn_r _ [5, 6, 7, 8, 4, 9, 10, 11, 12, 13, 14, 15, 16, 17, 18, 19, 20, 21, 22, 23, 24, 25, 26, 27] (by decide +kernel) (by decide +kernel)
set_option maxRecDepth 20000 in
theorem gX8_manyOf_X8_of : GoodIn wsX8_manyOf (wsV RX8 42 RX8 yX8_of wsX8_of) := goodIn_app (goodIn_of _ (by decide +kernel)) ggX8_manyOf_X8_of
theorem dX8_manyOf_0 : decode cX8_manyOf 0 = .ok (.iconst 0, 1) := by decide +kernel
theorem dX8_manyOf_1 : decode cX8_manyOf 1 = .ok (.istore_n 3, 1) := by decide +kernel
theorem dX8_manyOf_2 : decode cX8_manyOf 2 = .ok (.iconst 0, 1) := by decide +kernel
theorem dX8_manyOf_3 : decode cX8_manyOf 3 = .ok (.istore 4, 2) := by decide +kernel
theorem dX8_manyOf_5 : decode cX8_manyOf 5 = .ok (.iload 4, 2) := by decide +kernel
theorem dX8_manyOf_7 : decode cX8_manyOf 7 = .ok (.aload_n 0, 1) := by decide +kernel
theorem dX8_manyOf_8 : decode cX8_manyOf 8 = .ok (.iload_n 1, 1) := by decide +kernel
theorem dX8_manyOf_9 : decode cX8_manyOf 9 = .ok (.iconst 4, 1) := by decide +kernel
theorem dX8_manyOf_10 : decode cX8_manyOf 10 = .ok (.invokevirtual 42, 3) := by decide +kernel
theorem dX8_manyOf_13 : decode cX8_manyOf 13 = .ok (.if_icmp .ge 31, 3) := by decide +kernel
theorem dX8_manyOf_16 : decode cX8_manyOf 16 = .ok (.iload_n 3, 1) := by decide +kernel
theorem dX8_manyOf_17 : decode cX8_manyOf 17 = .ok (.aload_n 0, 1) := by decide +kernel
theorem dX8_manyOf_18 : decode cX8_manyOf 18 = .ok (.iload_n 1, 1) := by decide +kernel
theorem dX8_manyOf_19 : decode cX8_manyOf 19 = .ok (.bipush 12, 2) := by decide +kernel
theorem dX8_manyOf_21 : decode cX8_manyOf 21 = .ok (.iload 4, 2) := by decide +kernel
theorem dX8_manyOf_23 : decode cX8_manyOf 23 = .ok (.iadd, 1) := by decide +kernel
theorem dX8_manyOf_24 : decode cX8_manyOf 24 = .ok (.invokevirtual 42, 3) := by decide +kernel
theorem dX8_manyOf_27 : decode cX8_manyOf 27 = .ok (.iload_n 2, 1) := by decide +kernel
theorem dX8_manyOf_28 : decode cX8_manyOf 28 = .ok (.if_icmp .ne 7, 3) := by decide +kernel
theorem dX8_manyOf_31 : decode cX8_manyOf 31 = .ok (.iconst 1, 1) := by decide +kernel
theorem dX8_manyOf_32 : decode cX8_manyOf 32 = .ok (.goto 4, 3) := by decide +kernel
theorem dX8_manyOf_35 : decode cX8_manyOf 35 = .ok (.iconst 0, 1) := by decide +kernel
theorem dX8_manyOf_36 : decode cX8_manyOf 36 = .ok (.iadd, 1) := by decide +kernel
theorem dX8_manyOf_37 : decode cX8_manyOf 37 = .ok (.istore_n 3, 1) := by decide +kernel
theorem dX8_manyOf_38 : decode cX8_manyOf 38 = .ok (.iinc 4 1, 3) := by decide +kernel
theorem dX8_manyOf_41 : decode cX8_manyOf 41 = .ok (.goto (-36), 3) := by decide +kernel
theorem dX8_manyOf_44 : decode cX8_manyOf 44 = .ok (.iload_n 3, 1) := by decide +kernel
theorem dX8_manyOf_45 : decode cX8_manyOf 45 = .ok (.ireturn, 1) := by decide +kernel
theorem dX8_keysOf_0 : decode cX8_keysOf 0 = .ok (.iconst 0, 1) := by decide +kernel
theorem dX8_keysOf_1 : decode cX8_keysOf 1 = .ok (.istore_n 2, 1) := by decide +kernel
theorem dX8_keysOf_2 : decode cX8_keysOf 2 = .ok (.iconst 0, 1) := by decide +kernel
theorem dX8_keysOf_3 : decode cX8_keysOf 3 = .ok (.istore_n 3, 1) := by decide +kernel
theorem dX8_keysOf_4 : decode cX8_keysOf 4 = .ok (.iload_n 3, 1) := by decide +kernel
theorem dX8_keysOf_5 : decode cX8_keysOf 5 = .ok (.bipush 6, 2) := by decide +kernel
theorem dX8_keysOf_7 : decode cX8_keysOf 7 = .ok (.if_icmp .ge 32, 3) := by decide +kernel
theorem dX8_keysOf_10 : decode cX8_keysOf 10 = .ok (.iload_n 2, 1) := by decide +kernel
theorem dX8_keysOf_11 : decode cX8_keysOf 11 = .ok (.aload_n 0, 1) := by decide +kernel
theorem dX8_keysOf_12 : decode cX8_keysOf 12 = .ok (.getfield 7, 3) := by decide +kernel
theorem dX8_keysOf_15 : decode cX8_keysOf 15 = .ok (.bipush 40, 2) := by decide +kernel
theorem dX8_keysOf_17 : decode cX8_keysOf 17 = .ok (.iconst 2, 1) := by decide +kernel
theorem dX8_keysOf_18 : decode cX8_keysOf 18 = .ok (.iload_n 3, 1) := by decide +kernel
theorem dX8_keysOf_19 : decode cX8_keysOf 19 = .ok (.imul, 1) := by decide +kernel
theorem dX8_keysOf_20 : decode cX8_keysOf 20 = .ok (.iadd, 1) := by decide +kernel
theorem dX8_keysOf_21 : decode cX8_keysOf 21 = .ok (.iaload, 1) := by decide +kernel
theorem dX8_keysOf_22 : decode cX8_keysOf 22 = .ok (.iload_n 1, 1) := by decide +kernel
theorem dX8_keysOf_23 : decode cX8_keysOf 23 = .ok (.if_icmp .ne 7, 3) := by decide +kernel
theorem dX8_keysOf_26 : decode cX8_keysOf 26 = .ok (.iconst 1, 1) := by decide +kernel
theorem dX8_keysOf_27 : decode cX8_keysOf 27 = .ok (.goto 4, 3) := by decide +kernel
theorem dX8_keysOf_30 : decode cX8_keysOf 30 = .ok (.iconst 0, 1) := by decide +kernel
theorem dX8_keysOf_31 : decode cX8_keysOf 31 = .ok (.iadd, 1) := by decide +kernel
theorem dX8_keysOf_32 : decode cX8_keysOf 32 = .ok (.istore_n 2, 1) := by decide +kernel
theorem dX8_keysOf_33 : decode cX8_keysOf 33 = .ok (.iinc 3 1, 3) := by decide +kernel
theorem dX8_keysOf_36 : decode cX8_keysOf 36 = .ok (.goto (-32), 3) := by decide +kernel
theorem dX8_keysOf_39 : decode cX8_keysOf 39 = .ok (.iload_n 2, 1) := by decide +kernel
theorem dX8_keysOf_40 : decode cX8_keysOf 40 = .ok (.ireturn, 1) := by decide +kernel
set_option maxRecDepth 20000 in
theorem ggX8_hireInfo_X8_isHire : GoodIn wsX8_hireInfo wsX8_isHire := goodIn_r _ [7, 8, 9, 10, 6, 11, 27, 28, 29, 30, 31, 32, 33, 34, 35, 36, 37, 38, 39, 40, 41, 42, 43, 44] (by decide +kernel) (by decide +kernel)
set_option maxRecDepth 20000 in
theorem gX8_hireInfo_X8_isHire : GoodIn wsX8_hireInfo (wsV RX8 38 RX8 yX8_isHire wsX8_isHire) := goodIn_app (goodIn_of _ (by decide +kernel)) ggX8_hireInfo_X8_isHire
set_option maxRecDepth 20000 in
theorem ggX8_hireInfo_X8_in : GoodIn wsX8_hireInfo wsX8_in := goodIn_r _ [11] (by decide +kernel) (by decide +kernel)
set_option maxRecDepth 20000 in
theorem gX8_hireInfo_X8_in : GoodIn wsX8_hireInfo (va_wsS RX8 30 yX8_in wsX8_in) := goodIn_app (goodIn_of _ (by decide +kernel)) ggX8_hireInfo_X8_in
set_option maxRecDepth 20000 in
theorem ggX8_hireInfo_X8_manyOf : GoodIn wsX8_hireInfo wsX8_manyOf := goodIn_r _ [15, 16, 17, 18, 6, 19, 8, 20, 21, 22, 27, 28, 29, 30, 31, 32, 33, 34, 35, 36, 37, 38, 39, 40, 41, 42, 43, 44] (by decide +kernel) (by decide +kernel)
set_option maxRecDepth 20000 in
theorem gX8_hireInfo_X8_manyOf : GoodIn wsX8_hireInfo (wsV RX8 49 RX8 yX8_manyOf wsX8_manyOf) := goodIn_app (goodIn_of _ (by decide +kernel)) ggX8_hireInfo_X8_manyOf
set_option maxRecDepth 20000 in
theorem ggX8_hireInfo_X8_of : GoodIn wsX8_hireInfo wsX8_of := goodIn_r _ [19, 8, 20, 21, 6, 22, 27, 28, 29, 30, 31, 32, 33, 34, 35, 36, 37, 38, 39, 40, 41, 42, 43, 44] (by decide +kernel) (by decide +kernel)
set_option maxRecDepth 20000 in
theorem gX8_hireInfo_X8_of : GoodIn wsX8_hireInfo (wsV RX8 42 RX8 yX8_of wsX8_of) := goodIn_app (goodIn_of _ (by decide +kernel)) ggX8_hireInfo_X8_of
set_option maxRecDepth 20000 in
theorem ggX8_hireInfo_X8_keysOf : GoodIn wsX8_hireInfo wsX8_keysOf := goodIn_r _ [26, 8, 27, 28, 29, 30, 31, 32, 33, 34, 35, 36, 37, 38, 39, 40, 41, 42, 43, 44] (by decide +kernel) (by decide +kernel)
set_option maxRecDepth 20000 in
theorem gX8_hireInfo_X8_keysOf : GoodIn wsX8_hireInfo (wsV RX8 52 RX8 yX8_keysOf wsX8_keysOf) := goodIn_app (goodIn_of _ (by decide +kernel)) ggX8_hireInfo_X8_keysOf
theorem dX8_hireInfo_0 : decode cX8_hireInfo 0 = .ok (.aload_n 0, 1) := by decide +kernel
theorem dX8_hireInfo_1 : decode cX8_hireInfo 1 = .ok (.iload_n 1, 1) := by decide +kernel
theorem dX8_hireInfo_2 : decode cX8_hireInfo 2 = .ok (.invokevirtual 38, 3) := by decide +kernel
theorem dX8_hireInfo_5 : decode cX8_hireInfo 5 = .ok (.ifCond .eq 15, 3) := by decide +kernel
theorem dX8_hireInfo_8 : decode cX8_hireInfo 8 = .ok (.iload_n 2, 1) := by decide +kernel
theorem dX8_hireInfo_9 : decode cX8_hireInfo 9 = .ok (.i2l, 1) := by decide +kernel
theorem dX8_hireInfo_10 : decode cX8_hireInfo 10 = .ok (.lconst 0, 1) := by decide +kernel
theorem dX8_hireInfo_11 : decode cX8_hireInfo 11 = .ok (.ldc2_w 128, 3) := by decide +kernel
theorem dX8_hireInfo_14 : decode cX8_hireInfo 14 = .ok (.invokestatic 30, 3) := by decide +kernel
theorem dX8_hireInfo_17 : decode cX8_hireInfo 17 = .ok (.ifCond .ne 6, 3) := by decide +kernel
theorem dX8_hireInfo_20 : decode cX8_hireInfo 20 = .ok (.ldc 61, 2) := by decide +kernel
theorem dX8_hireInfo_22 : decode cX8_hireInfo 22 = .ok (.ireturn, 1) := by decide +kernel
theorem dX8_hireInfo_23 : decode cX8_hireInfo 23 = .ok (.iload_n 2, 1) := by decide +kernel
theorem dX8_hireInfo_24 : decode cX8_hireInfo 24 = .ok (.tableswitch 95 9 15 #[44, 51, 58, 65, 73, 81, 87], 44) := by decide +kernel
theorem dX8_hireInfo_68 : decode cX8_hireInfo 68 = .ok (.aload_n 0, 1) := by decide +kernel
theorem dX8_hireInfo_69 : decode cX8_hireInfo 69 = .ok (.iload_n 1, 1) := by decide +kernel
theorem dX8_hireInfo_70 : decode cX8_hireInfo 70 = .ok (.iconst 0, 1) := by decide +kernel
theorem dX8_hireInfo_71 : decode cX8_hireInfo 71 = .ok (.invokevirtual 49, 3) := by decide +kernel
theorem dX8_hireInfo_74 : decode cX8_hireInfo 74 = .ok (.ireturn, 1) := by decide +kernel
theorem dX8_hireInfo_75 : decode cX8_hireInfo 75 = .ok (.aload_n 0, 1) := by decide +kernel
theorem dX8_hireInfo_76 : decode cX8_hireInfo 76 = .ok (.iload_n 1, 1) := by decide +kernel
theorem dX8_hireInfo_77 : decode cX8_hireInfo 77 = .ok (.iconst 1, 1) := by decide +kernel
theorem dX8_hireInfo_78 : decode cX8_hireInfo 78 = .ok (.invokevirtual 49, 3) := by decide +kernel
theorem dX8_hireInfo_81 : decode cX8_hireInfo 81 = .ok (.ireturn, 1) := by decide +kernel
theorem dX8_hireInfo_82 : decode cX8_hireInfo 82 = .ok (.aload_n 0, 1) := by decide +kernel
theorem dX8_hireInfo_83 : decode cX8_hireInfo 83 = .ok (.iload_n 1, 1) := by decide +kernel
theorem dX8_hireInfo_84 : decode cX8_hireInfo 84 = .ok (.iconst 2, 1) := by decide +kernel
theorem dX8_hireInfo_85 : decode cX8_hireInfo 85 = .ok (.invokevirtual 49, 3) := by decide +kernel
theorem dX8_hireInfo_88 : decode cX8_hireInfo 88 = .ok (.ireturn, 1) := by decide +kernel
theorem dX8_hireInfo_89 : decode cX8_hireInfo 89 = .ok (.aload_n 0, 1) := by decide +kernel
theorem dX8_hireInfo_90 : decode cX8_hireInfo 90 = .ok (.iload_n 1, 1) := by decide +kernel
theorem dX8_hireInfo_91 : decode cX8_hireInfo 91 = .ok (.bipush 9, 2) := by decide +kernel
theorem dX8_hireInfo_93 : decode cX8_hireInfo 93 = .ok (.invokevirtual 42, 3) := by decide +kernel
theorem dX8_hireInfo_96 : decode cX8_hireInfo 96 = .ok (.ireturn, 1) := by decide +kernel
theorem dX8_hireInfo_97 : decode cX8_hireInfo 97 = .ok (.aload_n 0, 1) := by decide +kernel
theorem dX8_hireInfo_98 : decode cX8_hireInfo 98 = .ok (.iload_n 1, 1) := by decide +kernel
theorem dX8_hireInfo_99 : decode cX8_hireInfo 99 = .ok (.bipush 11, 2) := by decide +kernel
theorem dX8_hireInfo_101 : decode cX8_hireInfo 101 = .ok (.invokevirtual 42, 3) := by decide +kernel
theorem dX8_hireInfo_104 : decode cX8_hireInfo 104 = .ok (.ireturn, 1) := by decide +kernel
theorem dX8_hireInfo_105 : decode cX8_hireInfo 105 = .ok (.aload_n 0, 1) := by decide +kernel
theorem dX8_hireInfo_106 : decode cX8_hireInfo 106 = .ok (.iload_n 1, 1) := by decide +kernel
theorem dX8_hireInfo_107 : decode cX8_hireInfo 107 = .ok (.invokevirtual 52, 3) := by decide +kernel
theorem dX8_hireInfo_110 : decode cX8_hireInfo 110 = .ok (.ireturn, 1) := by decide +kernel
theorem dX8_hireInfo_111 : decode cX8_hireInfo 111 = .ok (.aload_n 0, 1) := by decide +kernel
theorem dX8_hireInfo_112 : decode cX8_hireInfo 112 = .ok (.iload_n 1, 1) := by decide +kernel
theorem dX8_hireInfo_113 : decode cX8_hireInfo 113 = .ok (.bipush 10, 2) := by decide +kernel
theorem dX8_hireInfo_115 : decode cX8_hireInfo 115 = .ok (.invokevirtual 42, 3) := by decide +kernel
theorem dX8_hireInfo_118 : decode cX8_hireInfo 118 = .ok (.ireturn, 1) := by decide +kernel
theorem dX8_hireInfo_119 : decode cX8_hireInfo 119 = .ok (.aload_n 0, 1) := by decide +kernel
theorem dX8_hireInfo_120 : decode cX8_hireInfo 120 = .ok (.iload_n 1, 1) := by decide +kernel
theorem dX8_hireInfo_121 : decode cX8_hireInfo 121 = .ok (.iload_n 2, 1) := by decide +kernel
theorem dX8_hireInfo_122 : decode cX8_hireInfo 122 = .ok (.invokevirtual 42, 3) := by decide +kernel
theorem dX8_hireInfo_125 : decode cX8_hireInfo 125 = .ok (.ireturn, 1) := by decide +kernel
set_option maxRecDepth 20000 in
theorem ggX8_shareOf_X8_of : GoodIn wsX8_shareOf wsX8_of := goodIn_r _ [5, 6, 7, 8, 4, 9, 10, 11, 12, 13, 14, 15, 16, 17, 18, 19, 20, 21, 22, 23, 24, 25, 26, 27] (by decide +kernel) (by decide +kernel)
set_option maxRecDepth 20000 in
theorem gX8_shareOf_X8_of : GoodIn wsX8_shareOf (wsV RX8 42 RX8 yX8_of wsX8_of) := goodIn_app (goodIn_of _ (by decide +kernel)) ggX8_shareOf_X8_of
theorem dX8_shareOf_0 : decode cX8_shareOf 0 = .ok (.iload_n 1, 1) := by decide +kernel
theorem dX8_shareOf_1 : decode cX8_shareOf 1 = .ok (.bipush 20, 2) := by decide +kernel
theorem dX8_shareOf_3 : decode cX8_shareOf 3 = .ok (.idiv, 1) := by decide +kernel
theorem dX8_shareOf_4 : decode cX8_shareOf 4 = .ok (.istore_n 2, 1) := by decide +kernel
theorem dX8_shareOf_5 : decode cX8_shareOf 5 = .ok (.aload_n 0, 1) := by decide +kernel
theorem dX8_shareOf_6 : decode cX8_shareOf 6 = .ok (.iload_n 2, 1) := by decide +kernel
theorem dX8_shareOf_7 : decode cX8_shareOf 7 = .ok (.bipush 7, 2) := by decide +kernel
theorem dX8_shareOf_9 : decode cX8_shareOf 9 = .ok (.invokevirtual 42, 3) := by decide +kernel
theorem dX8_shareOf_12 : decode cX8_shareOf 12 = .ok (.istore_n 3, 1) := by decide +kernel
theorem dX8_shareOf_13 : decode cX8_shareOf 13 = .ok (.aload_n 0, 1) := by decide +kernel
theorem dX8_shareOf_14 : decode cX8_shareOf 14 = .ok (.iload_n 2, 1) := by decide +kernel
theorem dX8_shareOf_15 : decode cX8_shareOf 15 = .ok (.iconst 4, 1) := by decide +kernel
theorem dX8_shareOf_16 : decode cX8_shareOf 16 = .ok (.invokevirtual 42, 3) := by decide +kernel
theorem dX8_shareOf_19 : decode cX8_shareOf 19 = .ok (.istore 4, 2) := by decide +kernel
theorem dX8_shareOf_21 : decode cX8_shareOf 21 = .ok (.iload_n 3, 1) := by decide +kernel
theorem dX8_shareOf_22 : decode cX8_shareOf 22 = .ok (.iload 4, 2) := by decide +kernel
theorem dX8_shareOf_24 : decode cX8_shareOf 24 = .ok (.idiv, 1) := by decide +kernel
theorem dX8_shareOf_25 : decode cX8_shareOf 25 = .ok (.iload_n 1, 1) := by decide +kernel
theorem dX8_shareOf_26 : decode cX8_shareOf 26 = .ok (.bipush 20, 2) := by decide +kernel
theorem dX8_shareOf_28 : decode cX8_shareOf 28 = .ok (.irem, 1) := by decide +kernel
theorem dX8_shareOf_29 : decode cX8_shareOf 29 = .ok (.iload_n 3, 1) := by decide +kernel
theorem dX8_shareOf_30 : decode cX8_shareOf 30 = .ok (.iload 4, 2) := by decide +kernel
theorem dX8_shareOf_32 : decode cX8_shareOf 32 = .ok (.irem, 1) := by decide +kernel
theorem dX8_shareOf_33 : decode cX8_shareOf 33 = .ok (.if_icmp .ge 7, 3) := by decide +kernel
theorem dX8_shareOf_36 : decode cX8_shareOf 36 = .ok (.iconst 1, 1) := by decide +kernel
theorem dX8_shareOf_37 : decode cX8_shareOf 37 = .ok (.goto 4, 3) := by decide +kernel
theorem dX8_shareOf_40 : decode cX8_shareOf 40 = .ok (.iconst 0, 1) := by decide +kernel
theorem dX8_shareOf_41 : decode cX8_shareOf 41 = .ok (.iadd, 1) := by decide +kernel
theorem dX8_shareOf_42 : decode cX8_shareOf 42 = .ok (.ireturn, 1) := by decide +kernel
set_option maxRecDepth 20000 in
theorem ggX8_refundOf_X8_dayOf : GoodIn wsX8_refundOf wsX8_dayOf := goodIn_r _ [6, 7, 8, 9, 5, 10, 1, 11, 12, 13, 18, 19, 20, 21, 22, 23, 24, 25, 26, 27, 28, 29, 30, 31, 32, 33, 34, 35] (by decide +kernel) (by decide +kernel)
set_option maxRecDepth 20000 in
theorem gX8_refundOf_X8_dayOf : GoodIn wsX8_refundOf (wsV RX8 97 RX8 yX8_dayOf wsX8_dayOf) := goodIn_app (goodIn_of _ (by decide +kernel)) ggX8_refundOf_X8_dayOf
set_option maxRecDepth 20000 in
theorem ggX8_refundOf_X8_shareOf : GoodIn wsX8_refundOf wsX8_shareOf := goodIn_r _ [17, 7, 8, 9, 5, 10, 1, 11, 12, 13, 18, 19, 20, 21, 22, 23, 24, 25, 26, 27, 28, 29, 30, 31, 32, 33, 34, 35] (by decide +kernel) (by decide +kernel)
set_option maxRecDepth 20000 in
theorem gX8_refundOf_X8_shareOf : GoodIn wsX8_refundOf (wsV RX8 130 RX8 yX8_shareOf wsX8_shareOf) := goodIn_app (goodIn_of _ (by decide +kernel)) ggX8_refundOf_X8_shareOf
theorem dX8_refundOf_0 : decode cX8_refundOf 0 = .ok (.aload_n 0, 1) := by decide +kernel
theorem dX8_refundOf_1 : decode cX8_refundOf 1 = .ok (.iload_n 1, 1) := by decide +kernel
theorem dX8_refundOf_2 : decode cX8_refundOf 2 = .ok (.invokevirtual 97, 3) := by decide +kernel
theorem dX8_refundOf_5 : decode cX8_refundOf 5 = .ok (.aload_n 0, 1) := by decide +kernel
theorem dX8_refundOf_6 : decode cX8_refundOf 6 = .ok (.getfield 7, 3) := by decide +kernel
theorem dX8_refundOf_9 : decode cX8_refundOf 9 = .ok (.iconst 0, 1) := by decide +kernel
theorem dX8_refundOf_10 : decode cX8_refundOf 10 = .ok (.iaload, 1) := by decide +kernel
theorem dX8_refundOf_11 : decode cX8_refundOf 11 = .ok (.isub, 1) := by decide +kernel
theorem dX8_refundOf_12 : decode cX8_refundOf 12 = .ok (.istore_n 2, 1) := by decide +kernel
theorem dX8_refundOf_13 : decode cX8_refundOf 13 = .ok (.iload_n 2, 1) := by decide +kernel
theorem dX8_refundOf_14 : decode cX8_refundOf 14 = .ok (.bipush 14, 2) := by decide +kernel
theorem dX8_refundOf_16 : decode cX8_refundOf 16 = .ok (.if_icmp .lt 11, 3) := by decide +kernel
theorem dX8_refundOf_19 : decode cX8_refundOf 19 = .ok (.aload_n 0, 1) := by decide +kernel
theorem dX8_refundOf_20 : decode cX8_refundOf 20 = .ok (.iload_n 1, 1) := by decide +kernel
theorem dX8_refundOf_21 : decode cX8_refundOf 21 = .ok (.invokevirtual 130, 3) := by decide +kernel
theorem dX8_refundOf_24 : decode cX8_refundOf 24 = .ok (.goto 20, 3) := by decide +kernel
theorem dX8_refundOf_27 : decode cX8_refundOf 27 = .ok (.iload_n 2, 1) := by decide +kernel
theorem dX8_refundOf_28 : decode cX8_refundOf 28 = .ok (.bipush 7, 2) := by decide +kernel
theorem dX8_refundOf_30 : decode cX8_refundOf 30 = .ok (.if_icmp .lt 13, 3) := by decide +kernel
theorem dX8_refundOf_33 : decode cX8_refundOf 33 = .ok (.aload_n 0, 1) := by decide +kernel
theorem dX8_refundOf_34 : decode cX8_refundOf 34 = .ok (.iload_n 1, 1) := by decide +kernel
theorem dX8_refundOf_35 : decode cX8_refundOf 35 = .ok (.invokevirtual 130, 3) := by decide +kernel
theorem dX8_refundOf_38 : decode cX8_refundOf 38 = .ok (.iconst 2, 1) := by decide +kernel
theorem dX8_refundOf_39 : decode cX8_refundOf 39 = .ok (.idiv, 1) := by decide +kernel
theorem dX8_refundOf_40 : decode cX8_refundOf 40 = .ok (.goto 4, 3) := by decide +kernel
theorem dX8_refundOf_43 : decode cX8_refundOf 43 = .ok (.iconst 0, 1) := by decide +kernel
theorem dX8_refundOf_44 : decode cX8_refundOf 44 = .ok (.ireturn, 1) := by decide +kernel
set_option maxRecDepth 20000 in
theorem ggX8_session_X8_isSession : GoodIn wsX8_session wsX8_isSession := goodIn_r _ [8, 9, 10, 11, 7, 12, 13, 14, 15, 16, 17, 18, 19, 20, 21, 22, 23, 40, 41, 42, 43, 44, 45, 46, 47, 48, 49, 50, 51, 52, 53, 54, 55, 56, 57] (by decide +kernel) (by decide +kernel)
set_option maxRecDepth 20000 in
theorem gX8_session_X8_isSession : GoodIn wsX8_session (wsV RX8 133 RX8 yX8_isSession wsX8_isSession) := goodIn_app (goodIn_of _ (by decide +kernel)) ggX8_session_X8_isSession
set_option maxRecDepth 20000 in
theorem ggX8_session_X8_in : GoodIn wsX8_session wsX8_in := goodIn_r _ [16] (by decide +kernel) (by decide +kernel)
set_option maxRecDepth 20000 in
theorem gX8_session_X8_in : GoodIn wsX8_session (va_wsS RX8 30 yX8_in wsX8_in) := goodIn_app (goodIn_of _ (by decide +kernel)) ggX8_session_X8_in
set_option maxRecDepth 20000 in
theorem ggX8_session_X8_stateOf : GoodIn wsX8_session wsX8_stateOf := goodIn_r _ [27, 17, 18, 19, 7, 20, 13, 21, 22, 23, 40, 41, 42, 43, 44, 45, 46, 47, 48, 49, 50, 51, 52, 53, 54, 55, 56, 57] (by decide +kernel) (by decide +kernel)
set_option maxRecDepth 20000 in
theorem gX8_session_X8_stateOf : GoodIn wsX8_session (wsV RX8 94 RX8 yX8_stateOf wsX8_stateOf) := goodIn_app (goodIn_of _ (by decide +kernel)) ggX8_session_X8_stateOf
set_option maxRecDepth 20000 in
theorem ggX8_session_X8_refundOf : GoodIn wsX8_session wsX8_refundOf := goodIn_r _ [31, 13, 32, 33, 34, 7, 35, 17, 18, 19, 20, 21, 22, 23, 36, 37, 38, 39, 40, 41, 42, 43, 44, 45, 46, 47, 48, 49, 50, 51, 52, 53, 54, 55, 56, 57] (by decide +kernel) (by decide +kernel)
set_option maxRecDepth 20000 in
theorem gX8_session_X8_refundOf : GoodIn wsX8_session (wsV RX8 138 RX8 yX8_refundOf wsX8_refundOf) := goodIn_app (goodIn_of _ (by decide +kernel)) ggX8_session_X8_refundOf
set_option maxRecDepth 20000 in
theorem ggX8_session_X8_dayOf : GoodIn wsX8_session wsX8_dayOf := goodIn_r _ [35, 17, 18, 19, 7, 20, 13, 21, 22, 23, 40, 41, 42, 43, 44, 45, 46, 47, 48, 49, 50, 51, 52, 53, 54, 55, 56, 57] (by decide +kernel) (by decide +kernel)
set_option maxRecDepth 20000 in
theorem gX8_session_X8_dayOf : GoodIn wsX8_session (wsV RX8 97 RX8 yX8_dayOf wsX8_dayOf) := goodIn_app (goodIn_of _ (by decide +kernel)) ggX8_session_X8_dayOf
set_option maxRecDepth 20000 in
theorem ggX8_session_X8_shareOf : GoodIn wsX8_session wsX8_shareOf := goodIn_r _ [39, 17, 18, 19, 7, 20, 13, 21, 22, 23, 40, 41, 42, 43, 44, 45, 46, 47, 48, 49, 50, 51, 52, 53, 54, 55, 56, 57] (by decide +kernel) (by decide +kernel)
set_option maxRecDepth 20000 in
theorem gX8_session_X8_shareOf : GoodIn wsX8_session (wsV RX8 130 RX8 yX8_shareOf wsX8_shareOf) := goodIn_app (goodIn_of _ (by decide +kernel)) ggX8_session_X8_shareOf
theorem dX8_session_0 : decode cX8_session 0 = .ok (.aload_n 0, 1) := by decide +kernel
theorem dX8_session_1 : decode cX8_session 1 = .ok (.iload_n 1, 1) := by decide +kernel
theorem dX8_session_2 : decode cX8_session 2 = .ok (.invokevirtual 133, 3) := by decide +kernel
theorem dX8_session_5 : decode cX8_session 5 = .ok (.ifCond .eq 15, 3) := by decide +kernel
theorem dX8_session_8 : decode cX8_session 8 = .ok (.iload_n 2, 1) := by decide +kernel
theorem dX8_session_9 : decode cX8_session 9 = .ok (.i2l, 1) := by decide +kernel
theorem dX8_session_10 : decode cX8_session 10 = .ok (.lconst 0, 1) := by decide +kernel
theorem dX8_session_11 : decode cX8_session 11 = .ok (.ldc2_w 136, 3) := by decide +kernel
theorem dX8_session_14 : decode cX8_session 14 = .ok (.invokestatic 30, 3) := by decide +kernel
theorem dX8_session_17 : decode cX8_session 17 = .ok (.ifCond .ne 6, 3) := by decide +kernel
theorem dX8_session_20 : decode cX8_session 20 = .ok (.ldc 61, 2) := by decide +kernel
theorem dX8_session_22 : decode cX8_session 22 = .ok (.ireturn, 1) := by decide +kernel
theorem dX8_session_23 : decode cX8_session 23 = .ok (.iload_n 2, 1) := by decide +kernel
theorem dX8_session_24 : decode cX8_session 24 = .ok (.iconst 3, 1) := by decide +kernel
theorem dX8_session_25 : decode cX8_session 25 = .ok (.if_icmp .ne 22, 3) := by decide +kernel
theorem dX8_session_28 : decode cX8_session 28 = .ok (.aload_n 0, 1) := by decide +kernel
theorem dX8_session_29 : decode cX8_session 29 = .ok (.iload_n 1, 1) := by decide +kernel
theorem dX8_session_30 : decode cX8_session 30 = .ok (.invokevirtual 94, 3) := by decide +kernel
theorem dX8_session_33 : decode cX8_session 33 = .ok (.ifCond .ne 11, 3) := by decide +kernel
theorem dX8_session_36 : decode cX8_session 36 = .ok (.aload_n 0, 1) := by decide +kernel
theorem dX8_session_37 : decode cX8_session 37 = .ok (.iload_n 1, 1) := by decide +kernel
theorem dX8_session_38 : decode cX8_session 38 = .ok (.invokevirtual 138, 3) := by decide +kernel
theorem dX8_session_41 : decode cX8_session 41 = .ok (.goto 5, 3) := by decide +kernel
theorem dX8_session_44 : decode cX8_session 44 = .ok (.ldc 19, 2) := by decide +kernel
theorem dX8_session_46 : decode cX8_session 46 = .ok (.ireturn, 1) := by decide +kernel
theorem dX8_session_47 : decode cX8_session 47 = .ok (.iload_n 2, 1) := by decide +kernel
theorem dX8_session_48 : decode cX8_session 48 = .ok (.ifCond .ne 11, 3) := by decide +kernel
theorem dX8_session_51 : decode cX8_session 51 = .ok (.aload_n 0, 1) := by decide +kernel
theorem dX8_session_52 : decode cX8_session 52 = .ok (.iload_n 1, 1) := by decide +kernel
theorem dX8_session_53 : decode cX8_session 53 = .ok (.invokevirtual 97, 3) := by decide +kernel
theorem dX8_session_56 : decode cX8_session 56 = .ok (.goto 21, 3) := by decide +kernel
theorem dX8_session_59 : decode cX8_session 59 = .ok (.iload_n 2, 1) := by decide +kernel
theorem dX8_session_60 : decode cX8_session 60 = .ok (.iconst 1, 1) := by decide +kernel
theorem dX8_session_61 : decode cX8_session 61 = .ok (.if_icmp .ne 11, 3) := by decide +kernel
theorem dX8_session_64 : decode cX8_session 64 = .ok (.aload_n 0, 1) := by decide +kernel
theorem dX8_session_65 : decode cX8_session 65 = .ok (.iload_n 1, 1) := by decide +kernel
theorem dX8_session_66 : decode cX8_session 66 = .ok (.invokevirtual 94, 3) := by decide +kernel
theorem dX8_session_69 : decode cX8_session 69 = .ok (.goto 8, 3) := by decide +kernel
theorem dX8_session_72 : decode cX8_session 72 = .ok (.aload_n 0, 1) := by decide +kernel
theorem dX8_session_73 : decode cX8_session 73 = .ok (.iload_n 1, 1) := by decide +kernel
theorem dX8_session_74 : decode cX8_session 74 = .ok (.invokevirtual 130, 3) := by decide +kernel
theorem dX8_session_77 : decode cX8_session 77 = .ok (.ireturn, 1) := by decide +kernel
set_option maxRecDepth 20000 in
theorem ggX8_cancel_X8_isSession : GoodIn wsX8_cancel wsX8_isSession := goodIn_r _ [8, 9, 10, 11, 7, 12, 3, 13, 14, 15, 16, 17, 18, 19, 20, 21, 22, 49, 50, 51, 52, 53, 54, 55, 56, 57, 58, 59, 60, 61, 62, 63, 64, 65, 66] (by decide +kernel) (by decide +kernel)
set_option maxRecDepth 20000 in
theorem gX8_cancel_X8_isSession : GoodIn wsX8_cancel (wsV RX8 133 RX8 yX8_isSession wsX8_isSession) := goodIn_app (goodIn_of _ (by decide +kernel)) ggX8_cancel_X8_isSession
set_option maxRecDepth 20000 in
theorem ggX8_cancel_X8_stateOf : GoodIn wsX8_cancel wsX8_stateOf := goodIn_r _ [26, 16, 17, 18, 7, 19, 3, 20, 21, 22, 49, 50, 51, 52, 53, 54, 55, 56, 57, 58, 59, 60, 61, 62, 63, 64, 65, 66] (by decide +kernel) (by decide +kernel)
set_option maxRecDepth 20000 in
theorem gX8_cancel_X8_stateOf : GoodIn wsX8_cancel (wsV RX8 94 RX8 yX8_stateOf wsX8_stateOf) := goodIn_app (goodIn_of _ (by decide +kernel)) ggX8_cancel_X8_stateOf
set_option maxRecDepth 20000 in
theorem ggX8_cancel_X8_save : GoodIn wsX8_cancel wsX8_save := goodIn_r _ [30, 31, 32, 3, 49, 50, 51, 52, 53, 54, 55, 56, 57, 58, 59, 60, 61, 62, 63, 64, 65, 66] (by decide +kernel) (by decide +kernel)
set_option maxRecDepth 20000 in
theorem gX8_cancel_X8_save : GoodIn wsX8_cancel (wsV RX8 46 RX8 yX8_save wsX8_save) := goodIn_app (goodIn_of _ (by decide +kernel)) ggX8_cancel_X8_save
set_option maxRecDepth 20000 in
theorem ggX8_cancel_X8_refundOf : GoodIn wsX8_cancel wsX8_refundOf := goodIn_r _ [36, 3, 37, 38, 39, 7, 40, 16, 17, 18, 19, 20, 21, 22, 41, 42, 43, 44, 49, 50, 51, 52, 53, 54, 55, 56, 57, 58, 59, 60, 61, 62, 63, 64, 65, 66] (by decide +kernel) (by decide +kernel)
set_option maxRecDepth 20000 in
theorem gX8_cancel_X8_refundOf : GoodIn wsX8_cancel (wsV RX8 138 RX8 yX8_refundOf wsX8_refundOf) := goodIn_app (goodIn_of _ (by decide +kernel)) ggX8_cancel_X8_refundOf
set_option maxRecDepth 20000 in
theorem ggX8_cancel_X8_at : GoodIn wsX8_cancel wsX8_at := goodIn_r _ [22] (by decide +kernel) (by decide +kernel)
set_option maxRecDepth 20000 in
theorem gX8_cancel_X8_at : GoodIn wsX8_cancel (va_wsS RX8 34 yX8_at wsX8_at) := goodIn_app (goodIn_of _ (by decide +kernel)) ggX8_cancel_X8_at
set_option maxRecDepth 20000 in
theorem ggX8_cancel_X8_of : GoodIn wsX8_cancel wsX8_of := goodIn_r _ [19, 3, 20, 21, 7, 22, 49, 50, 51, 52, 53, 54, 55, 56, 57, 58, 59, 60, 61, 62, 63, 64, 65, 66] (by decide +kernel) (by decide +kernel)
set_option maxRecDepth 20000 in
theorem gX8_cancel_X8_of : GoodIn wsX8_cancel (wsV RX8 42 RX8 yX8_of wsX8_of) := goodIn_app (goodIn_of _ (by decide +kernel)) ggX8_cancel_X8_of
set_option maxRecDepth 20000 in
theorem ggX8_cancel_X8_pays : GoodIn wsX8_cancel wsX8_pays := goodIn_r _ [48, 3, 49, 50, 51, 52, 53, 54, 55, 56, 57, 58, 59, 60, 61, 62, 63, 64, 65, 66] (by decide +kernel) (by decide +kernel)
set_option maxRecDepth 20000 in
theorem gX8_cancel_X8_pays : GoodIn wsX8_cancel (wsV RX8 68 RX8 yX8_pays wsX8_pays) := goodIn_app (goodIn_of _ (by decide +kernel)) ggX8_cancel_X8_pays
theorem dX8_cancel_0 : decode cX8_cancel 0 = .ok (.aload_n 0, 1) := by decide +kernel
theorem dX8_cancel_1 : decode cX8_cancel 1 = .ok (.iload_n 1, 1) := by decide +kernel
theorem dX8_cancel_2 : decode cX8_cancel 2 = .ok (.invokevirtual 133, 3) := by decide +kernel
theorem dX8_cancel_5 : decode cX8_cancel 5 = .ok (.ifCond .ne 6, 3) := by decide +kernel
theorem dX8_cancel_8 : decode cX8_cancel 8 = .ok (.ldc 61, 2) := by decide +kernel
theorem dX8_cancel_10 : decode cX8_cancel 10 = .ok (.ireturn, 1) := by decide +kernel
theorem dX8_cancel_11 : decode cX8_cancel 11 = .ok (.aload_n 0, 1) := by decide +kernel
theorem dX8_cancel_12 : decode cX8_cancel 12 = .ok (.iload_n 1, 1) := by decide +kernel
theorem dX8_cancel_13 : decode cX8_cancel 13 = .ok (.invokevirtual 94, 3) := by decide +kernel
theorem dX8_cancel_16 : decode cX8_cancel 16 = .ok (.ifCond .eq 6, 3) := by decide +kernel
theorem dX8_cancel_19 : decode cX8_cancel 19 = .ok (.ldc 119, 2) := by decide +kernel
theorem dX8_cancel_21 : decode cX8_cancel 21 = .ok (.ireturn, 1) := by decide +kernel
theorem dX8_cancel_22 : decode cX8_cancel 22 = .ok (.aload_n 0, 1) := by decide +kernel
theorem dX8_cancel_23 : decode cX8_cancel 23 = .ok (.invokevirtual 46, 3) := by decide +kernel
theorem dX8_cancel_26 : decode cX8_cancel 26 = .ok (.aload_n 0, 1) := by decide +kernel
theorem dX8_cancel_27 : decode cX8_cancel 27 = .ok (.iload_n 1, 1) := by decide +kernel
theorem dX8_cancel_28 : decode cX8_cancel 28 = .ok (.invokevirtual 138, 3) := by decide +kernel
theorem dX8_cancel_31 : decode cX8_cancel 31 = .ok (.istore_n 2, 1) := by decide +kernel
theorem dX8_cancel_32 : decode cX8_cancel 32 = .ok (.iload_n 1, 1) := by decide +kernel
theorem dX8_cancel_33 : decode cX8_cancel 33 = .ok (.bipush 20, 2) := by decide +kernel
theorem dX8_cancel_35 : decode cX8_cancel 35 = .ok (.idiv, 1) := by decide +kernel
theorem dX8_cancel_36 : decode cX8_cancel 36 = .ok (.istore_n 3, 1) := by decide +kernel
theorem dX8_cancel_37 : decode cX8_cancel 37 = .ok (.aload_n 0, 1) := by decide +kernel
theorem dX8_cancel_38 : decode cX8_cancel 38 = .ok (.getfield 7, 3) := by decide +kernel
theorem dX8_cancel_41 : decode cX8_cancel 41 = .ok (.iload_n 3, 1) := by decide +kernel
theorem dX8_cancel_42 : decode cX8_cancel 42 = .ok (.bipush 12, 2) := by decide +kernel
theorem dX8_cancel_44 : decode cX8_cancel 44 = .ok (.iload_n 1, 1) := by decide +kernel
theorem dX8_cancel_45 : decode cX8_cancel 45 = .ok (.bipush 20, 2) := by decide +kernel
theorem dX8_cancel_47 : decode cX8_cancel 47 = .ok (.irem, 1) := by decide +kernel
theorem dX8_cancel_48 : decode cX8_cancel 48 = .ok (.iadd, 1) := by decide +kernel
theorem dX8_cancel_49 : decode cX8_cancel 49 = .ok (.invokestatic 34, 3) := by decide +kernel
theorem dX8_cancel_52 : decode cX8_cancel 52 = .ok (.iconst 2, 1) := by decide +kernel
theorem dX8_cancel_53 : decode cX8_cancel 53 = .ok (.iastore, 1) := by decide +kernel
theorem dX8_cancel_54 : decode cX8_cancel 54 = .ok (.aload_n 0, 1) := by decide +kernel
theorem dX8_cancel_55 : decode cX8_cancel 55 = .ok (.aload_n 0, 1) := by decide +kernel
theorem dX8_cancel_56 : decode cX8_cancel 56 = .ok (.iload_n 3, 1) := by decide +kernel
theorem dX8_cancel_57 : decode cX8_cancel 57 = .ok (.iconst 0, 1) := by decide +kernel
theorem dX8_cancel_58 : decode cX8_cancel 58 = .ok (.invokevirtual 42, 3) := by decide +kernel
theorem dX8_cancel_61 : decode cX8_cancel 61 = .ok (.iload_n 2, 1) := by decide +kernel
theorem dX8_cancel_62 : decode cX8_cancel 62 = .ok (.invokevirtual 68, 3) := by decide +kernel
theorem dX8_cancel_65 : decode cX8_cancel 65 = .ok (.aload_n 0, 1) := by decide +kernel
theorem dX8_cancel_66 : decode cX8_cancel 66 = .ok (.getfield 7, 3) := by decide +kernel
theorem dX8_cancel_69 : decode cX8_cancel 69 = .ok (.bipush 12, 2) := by decide +kernel
theorem dX8_cancel_71 : decode cX8_cancel 71 = .ok (.dup2, 1) := by decide +kernel
theorem dX8_cancel_72 : decode cX8_cancel 72 = .ok (.iaload, 1) := by decide +kernel
theorem dX8_cancel_73 : decode cX8_cancel 73 = .ok (.iload_n 2, 1) := by decide +kernel
theorem dX8_cancel_74 : decode cX8_cancel 74 = .ok (.iadd, 1) := by decide +kernel
theorem dX8_cancel_75 : decode cX8_cancel 75 = .ok (.iastore, 1) := by decide +kernel
theorem dX8_cancel_76 : decode cX8_cancel 76 = .ok (.iload_n 2, 1) := by decide +kernel
theorem dX8_cancel_77 : decode cX8_cancel 77 = .ok (.ireturn, 1) := by decide +kernel
set_option maxRecDepth 20000 in
theorem ggX8_taken_X8_in : GoodIn wsX8_taken wsX8_in := goodIn_r _ [8] (by decide +kernel) (by decide +kernel)
set_option maxRecDepth 20000 in
theorem gX8_taken_X8_in : GoodIn wsX8_taken (va_wsS RX8 30 yX8_in wsX8_in) := goodIn_app (goodIn_of _ (by decide +kernel)) ggX8_taken_X8_in
set_option maxRecDepth 20000 in
theorem ggX8_taken_X8_of : GoodIn wsX8_taken wsX8_of := goodIn_r _ [12, 4, 13, 14, 7, 15, 20, 21, 22, 23, 24, 25, 26, 27, 28, 29, 30, 31, 32, 33, 34, 35, 36, 37] (by decide +kernel) (by decide +kernel)
set_option maxRecDepth 20000 in
theorem gX8_taken_X8_of : GoodIn wsX8_taken (wsV RX8 42 RX8 yX8_of wsX8_of) := goodIn_app (goodIn_of _ (by decide +kernel)) ggX8_taken_X8_of
set_option maxRecDepth 20000 in
theorem ggX8_taken_X8_dayOf : GoodIn wsX8_taken wsX8_dayOf := goodIn_r _ [19, 9, 10, 11, 7, 12, 4, 13, 14, 15, 20, 21, 22, 23, 24, 25, 26, 27, 28, 29, 30, 31, 32, 33, 34, 35, 36, 37] (by decide +kernel) (by decide +kernel)
set_option maxRecDepth 20000 in
theorem gX8_taken_X8_dayOf : GoodIn wsX8_taken (wsV RX8 97 RX8 yX8_dayOf wsX8_dayOf) := goodIn_app (goodIn_of _ (by decide +kernel)) ggX8_taken_X8_dayOf
theorem dX8_taken_0 : decode cX8_taken 0 = .ok (.iload_n 1, 1) := by decide +kernel
