theorem dX10_isCitizen_1 : decode cX10_isCitizen 1 = .ok (.i2l, 1) := by decide +kernel
theorem dX10_isCitizen_2 : decode cX10_isCitizen 2 = .ok (.lconst 0, 1) := by decide +kernel
theorem dX10_isCitizen_3 : decode cX10_isCitizen 3 = .ok (.aload_n 0, 1) := by decide +kernel
theorem dX10_isCitizen_4 : decode cX10_isCitizen 4 = .ok (.getfield 231, 3) := by decide +kernel
theorem dX10_isCitizen_7 : decode cX10_isCitizen 7 = .ok (.iconst 1, 1) := by decide +kernel
theorem dX10_isCitizen_8 : decode cX10_isCitizen 8 = .ok (.isub, 1) := by decide +kernel
theorem dX10_isCitizen_9 : decode cX10_isCitizen 9 = .ok (.i2l, 1) := by decide +kernel
theorem dX10_isCitizen_10 : decode cX10_isCitizen 10 = .ok (.invokestatic 194, 3) := by decide +kernel
theorem dX10_isCitizen_13 : decode cX10_isCitizen 13 = .ok (.ireturn, 1) := by decide +kernel
set_option maxRecDepth 20000 in
theorem ggX10_citizen_X10_in : GoodIn wsX10_citizen wsX10_in := goodIn_r _ [14] (by decide +kernel) (by decide +kernel)
set_option maxRecDepth 20000 in
theorem gX10_citizen_X10_in : GoodIn wsX10_citizen (va_wsS RX10 194 yX10_in wsX10_in) := goodIn_app (goodIn_of _ (by decide +kernel)) ggX10_citizen_X10_in
theorem dX10_citizen_0 : decode cX10_citizen 0 = .ok (.iload_n 1, 1) := by decide +kernel
theorem dX10_citizen_1 : decode cX10_citizen 1 = .ok (.i2l, 1) := by decide +kernel
theorem dX10_citizen_2 : decode cX10_citizen 2 = .ok (.lconst 0, 1) := by decide +kernel
theorem dX10_citizen_3 : decode cX10_citizen 3 = .ok (.ldc2_w 234, 3) := by decide +kernel
theorem dX10_citizen_6 : decode cX10_citizen 6 = .ok (.invokestatic 194, 3) := by decide +kernel
theorem dX10_citizen_9 : decode cX10_citizen 9 = .ok (.ifCond .eq 33, 3) := by decide +kernel
theorem dX10_citizen_12 : decode cX10_citizen 12 = .ok (.iload_n 2, 1) := by decide +kernel
theorem dX10_citizen_13 : decode cX10_citizen 13 = .ok (.i2l, 1) := by decide +kernel
theorem dX10_citizen_14 : decode cX10_citizen 14 = .ok (.lconst 0, 1) := by decide +kernel
theorem dX10_citizen_15 : decode cX10_citizen 15 = .ok (.ldc2_w 236, 3) := by decide +kernel
theorem dX10_citizen_18 : decode cX10_citizen 18 = .ok (.invokestatic 194, 3) := by decide +kernel
theorem dX10_citizen_21 : decode cX10_citizen 21 = .ok (.ifCond .eq 21, 3) := by decide +kernel
theorem dX10_citizen_24 : decode cX10_citizen 24 = .ok (.iload_n 3, 1) := by decide +kernel
theorem dX10_citizen_25 : decode cX10_citizen 25 = .ok (.i2l, 1) := by decide +kernel
theorem dX10_citizen_26 : decode cX10_citizen 26 = .ok (.ldc2_w 238, 3) := by decide +kernel
theorem dX10_citizen_29 : decode cX10_citizen 29 = .ok (.aload_n 0, 1) := by decide +kernel
theorem dX10_citizen_30 : decode cX10_citizen 30 = .ok (.getfield 189, 3) := by decide +kernel
theorem dX10_citizen_33 : decode cX10_citizen 33 = .ok (.iconst 1, 1) := by decide +kernel
theorem dX10_citizen_34 : decode cX10_citizen 34 = .ok (.isub, 1) := by decide +kernel
theorem dX10_citizen_35 : decode cX10_citizen 35 = .ok (.i2l, 1) := by decide +kernel
theorem dX10_citizen_36 : decode cX10_citizen 36 = .ok (.invokestatic 194, 3) := by decide +kernel
theorem dX10_citizen_39 : decode cX10_citizen 39 = .ok (.ifCond .ne 6, 3) := by decide +kernel
theorem dX10_citizen_42 : decode cX10_citizen 42 = .ok (.bipush (-2), 2) := by decide +kernel
theorem dX10_citizen_44 : decode cX10_citizen 44 = .ok (.ireturn, 1) := by decide +kernel
theorem dX10_citizen_45 : decode cX10_citizen 45 = .ok (.aload_n 0, 1) := by decide +kernel
theorem dX10_citizen_46 : decode cX10_citizen 46 = .ok (.getfield 231, 3) := by decide +kernel
theorem dX10_citizen_49 : decode cX10_citizen 49 = .ok (.sipush 150, 3) := by decide +kernel
theorem dX10_citizen_52 : decode cX10_citizen 52 = .ok (.if_icmp .ne 6, 3) := by decide +kernel
theorem dX10_citizen_55 : decode cX10_citizen 55 = .ok (.bipush (-3), 2) := by decide +kernel
theorem dX10_citizen_57 : decode cX10_citizen 57 = .ok (.ireturn, 1) := by decide +kernel
theorem dX10_citizen_58 : decode cX10_citizen 58 = .ok (.aload_n 0, 1) := by decide +kernel
theorem dX10_citizen_59 : decode cX10_citizen 59 = .ok (.getfield 28, 3) := by decide +kernel
theorem dX10_citizen_62 : decode cX10_citizen 62 = .ok (.aload_n 0, 1) := by decide +kernel
theorem dX10_citizen_63 : decode cX10_citizen 63 = .ok (.getfield 231, 3) := by decide +kernel
theorem dX10_citizen_66 : decode cX10_citizen 66 = .ok (.iload_n 1, 1) := by decide +kernel
theorem dX10_citizen_67 : decode cX10_citizen 67 = .ok (.iastore, 1) := by decide +kernel
theorem dX10_citizen_68 : decode cX10_citizen 68 = .ok (.aload_n 0, 1) := by decide +kernel
theorem dX10_citizen_69 : decode cX10_citizen 69 = .ok (.getfield 31, 3) := by decide +kernel
theorem dX10_citizen_72 : decode cX10_citizen 72 = .ok (.aload_n 0, 1) := by decide +kernel
theorem dX10_citizen_73 : decode cX10_citizen 73 = .ok (.getfield 231, 3) := by decide +kernel
theorem dX10_citizen_76 : decode cX10_citizen 76 = .ok (.iload_n 2, 1) := by decide +kernel
theorem dX10_citizen_77 : decode cX10_citizen 77 = .ok (.iastore, 1) := by decide +kernel
theorem dX10_citizen_78 : decode cX10_citizen 78 = .ok (.aload_n 0, 1) := by decide +kernel
theorem dX10_citizen_79 : decode cX10_citizen 79 = .ok (.getfield 34, 3) := by decide +kernel
theorem dX10_citizen_82 : decode cX10_citizen 82 = .ok (.aload_n 0, 1) := by decide +kernel
theorem dX10_citizen_83 : decode cX10_citizen 83 = .ok (.getfield 231, 3) := by decide +kernel
theorem dX10_citizen_86 : decode cX10_citizen 86 = .ok (.iload_n 3, 1) := by decide +kernel
theorem dX10_citizen_87 : decode cX10_citizen 87 = .ok (.iastore, 1) := by decide +kernel
theorem dX10_citizen_88 : decode cX10_citizen 88 = .ok (.aload_n 0, 1) := by decide +kernel
theorem dX10_citizen_89 : decode cX10_citizen 89 = .ok (.getfield 46, 3) := by decide +kernel
theorem dX10_citizen_92 : decode cX10_citizen 92 = .ok (.aload_n 0, 1) := by decide +kernel
theorem dX10_citizen_93 : decode cX10_citizen 93 = .ok (.getfield 231, 3) := by decide +kernel
theorem dX10_citizen_96 : decode cX10_citizen 96 = .ok (.iconst (-1), 1) := by decide +kernel
theorem dX10_citizen_97 : decode cX10_citizen 97 = .ok (.iastore, 1) := by decide +kernel
theorem dX10_citizen_98 : decode cX10_citizen 98 = .ok (.aload_n 0, 1) := by decide +kernel
theorem dX10_citizen_99 : decode cX10_citizen 99 = .ok (.getfield 52, 3) := by decide +kernel
theorem dX10_citizen_102 : decode cX10_citizen 102 = .ok (.aload_n 0, 1) := by decide +kernel
theorem dX10_citizen_103 : decode cX10_citizen 103 = .ok (.getfield 231, 3) := by decide +kernel
theorem dX10_citizen_106 : decode cX10_citizen 106 = .ok (.iconst (-1), 1) := by decide +kernel
theorem dX10_citizen_107 : decode cX10_citizen 107 = .ok (.iastore, 1) := by decide +kernel
theorem dX10_citizen_108 : decode cX10_citizen 108 = .ok (.aload_n 0, 1) := by decide +kernel
theorem dX10_citizen_109 : decode cX10_citizen 109 = .ok (.dup, 1) := by decide +kernel
theorem dX10_citizen_110 : decode cX10_citizen 110 = .ok (.getfield 231, 3) := by decide +kernel
theorem dX10_citizen_113 : decode cX10_citizen 113 = .ok (.iconst 1, 1) := by decide +kernel
theorem dX10_citizen_114 : decode cX10_citizen 114 = .ok (.iadd, 1) := by decide +kernel
theorem dX10_citizen_115 : decode cX10_citizen 115 = .ok (.putfield 231, 3) := by decide +kernel
theorem dX10_citizen_118 : decode cX10_citizen 118 = .ok (.aload_n 0, 1) := by decide +kernel
theorem dX10_citizen_119 : decode cX10_citizen 119 = .ok (.getfield 231, 3) := by decide +kernel
theorem dX10_citizen_122 : decode cX10_citizen 122 = .ok (.iconst 1, 1) := by decide +kernel
theorem dX10_citizen_123 : decode cX10_citizen 123 = .ok (.isub, 1) := by decide +kernel
theorem dX10_citizen_124 : decode cX10_citizen 124 = .ok (.ireturn, 1) := by decide +kernel
set_option maxRecDepth 20000 in
theorem ggX10_swear_X10_isCitizen : GoodIn wsX10_swear wsX10_isCitizen := goodIn_r _ [6, 7, 8, 9, 5, 10, 11, 12, 13, 14, 15, 16, 17, 18, 19, 20, 21, 22, 23, 24, 25, 26, 27, 28, 29, 30, 31, 32, 33, 34, 35, 36, 37, 38, 39, 40, 41, 42, 43, 44, 45, 46, 47, 48, 49, 50, 51, 52, 53, 54, 55, 56, 57, 58, 59, 60] (by decide +kernel) (by decide +kernel)
set_option maxRecDepth 20000 in
theorem gX10_swear_X10_isCitizen : GoodIn wsX10_swear (wsV RX10 240 RX10 yX10_isCitizen wsX10_isCitizen) := goodIn_app (goodIn_of _ (by decide +kernel)) ggX10_swear_X10_isCitizen
theorem dX10_swear_0 : decode cX10_swear 0 = .ok (.aload_n 0, 1) := by decide +kernel
theorem dX10_swear_1 : decode cX10_swear 1 = .ok (.iload_n 1, 1) := by decide +kernel
theorem dX10_swear_2 : decode cX10_swear 2 = .ok (.invokevirtual 240, 3) := by decide +kernel
theorem dX10_swear_5 : decode cX10_swear 5 = .ok (.ifCond .ne 6, 3) := by decide +kernel
theorem dX10_swear_8 : decode cX10_swear 8 = .ok (.bipush (-2), 2) := by decide +kernel
theorem dX10_swear_10 : decode cX10_swear 10 = .ok (.ireturn, 1) := by decide +kernel
theorem dX10_swear_11 : decode cX10_swear 11 = .ok (.aload_n 0, 1) := by decide +kernel
theorem dX10_swear_12 : decode cX10_swear 12 = .ok (.getfield 37, 3) := by decide +kernel
theorem dX10_swear_15 : decode cX10_swear 15 = .ok (.iload_n 1, 1) := by decide +kernel
theorem dX10_swear_16 : decode cX10_swear 16 = .ok (.baload, 1) := by decide +kernel
theorem dX10_swear_17 : decode cX10_swear 17 = .ok (.istore_n 2, 1) := by decide +kernel
theorem dX10_swear_18 : decode cX10_swear 18 = .ok (.aload_n 0, 1) := by decide +kernel
theorem dX10_swear_19 : decode cX10_swear 19 = .ok (.getfield 37, 3) := by decide +kernel
theorem dX10_swear_22 : decode cX10_swear 22 = .ok (.iload_n 1, 1) := by decide +kernel
theorem dX10_swear_23 : decode cX10_swear 23 = .ok (.iconst 1, 1) := by decide +kernel
theorem dX10_swear_24 : decode cX10_swear 24 = .ok (.bastore, 1) := by decide +kernel
theorem dX10_swear_25 : decode cX10_swear 25 = .ok (.iload_n 2, 1) := by decide +kernel
theorem dX10_swear_26 : decode cX10_swear 26 = .ok (.ifCond .eq 7, 3) := by decide +kernel
theorem dX10_swear_29 : decode cX10_swear 29 = .ok (.iconst 0, 1) := by decide +kernel
theorem dX10_swear_30 : decode cX10_swear 30 = .ok (.goto 4, 3) := by decide +kernel
theorem dX10_swear_33 : decode cX10_swear 33 = .ok (.iconst 1, 1) := by decide +kernel
theorem dX10_swear_34 : decode cX10_swear 34 = .ok (.ireturn, 1) := by decide +kernel
theorem dX10_lay_0 : decode cX10_lay 0 = .ok (.aload_n 0, 1) := by decide +kernel
theorem dX10_lay_1 : decode cX10_lay 1 = .ok (.getfield 40, 3) := by decide +kernel
theorem dX10_lay_4 : decode cX10_lay 4 = .ok (.iload_n 1, 1) := by decide +kernel
theorem dX10_lay_5 : decode cX10_lay 5 = .ok (.dup2, 1) := by decide +kernel
theorem dX10_lay_6 : decode cX10_lay 6 = .ok (.iaload, 1) := by decide +kernel
theorem dX10_lay_7 : decode cX10_lay 7 = .ok (.iload_n 2, 1) := by decide +kernel
theorem dX10_lay_8 : decode cX10_lay 8 = .ok (.iadd, 1) := by decide +kernel
theorem dX10_lay_9 : decode cX10_lay 9 = .ok (.iastore, 1) := by decide +kernel
theorem dX10_lay_10 : decode cX10_lay 10 = .ok (.iconst 0, 1) := by decide +kernel
theorem dX10_lay_11 : decode cX10_lay 11 = .ok (.istore_n 3, 1) := by decide +kernel
theorem dX10_lay_12 : decode cX10_lay 12 = .ok (.iload_n 3, 1) := by decide +kernel
theorem dX10_lay_13 : decode cX10_lay 13 = .ok (.iconst 5, 1) := by decide +kernel
theorem dX10_lay_14 : decode cX10_lay 14 = .ok (.if_icmp .ge 70, 3) := by decide +kernel
theorem dX10_lay_17 : decode cX10_lay 17 = .ok (.aload_n 0, 1) := by decide +kernel
theorem dX10_lay_18 : decode cX10_lay 18 = .ok (.getfield 83, 3) := by decide +kernel
theorem dX10_lay_21 : decode cX10_lay 21 = .ok (.iload_n 3, 1) := by decide +kernel
theorem dX10_lay_22 : decode cX10_lay 22 = .ok (.baload, 1) := by decide +kernel
theorem dX10_lay_23 : decode cX10_lay 23 = .ok (.ifCond .ne 6, 3) := by decide +kernel
theorem dX10_lay_26 : decode cX10_lay 26 = .ok (.goto 52, 3) := by decide +kernel
theorem dX10_lay_29 : decode cX10_lay 29 = .ok (.iconst 0, 1) := by decide +kernel
theorem dX10_lay_30 : decode cX10_lay 30 = .ok (.istore 4, 2) := by decide +kernel
theorem dX10_lay_32 : decode cX10_lay 32 = .ok (.iload 4, 2) := by decide +kernel
theorem dX10_lay_34 : decode cX10_lay 34 = .ok (.aload_n 0, 1) := by decide +kernel
theorem dX10_lay_35 : decode cX10_lay 35 = .ok (.getfield 71, 3) := by decide +kernel
theorem dX10_lay_38 : decode cX10_lay 38 = .ok (.iload_n 3, 1) := by decide +kernel
theorem dX10_lay_39 : decode cX10_lay 39 = .ok (.iaload, 1) := by decide +kernel
theorem dX10_lay_40 : decode cX10_lay 40 = .ok (.if_icmp .ge 38, 3) := by decide +kernel
theorem dX10_lay_43 : decode cX10_lay 43 = .ok (.aload_n 0, 1) := by decide +kernel
theorem dX10_lay_44 : decode cX10_lay 44 = .ok (.getfield 74, 3) := by decide +kernel
theorem dX10_lay_47 : decode cX10_lay 47 = .ok (.bipush 25, 2) := by decide +kernel
theorem dX10_lay_49 : decode cX10_lay 49 = .ok (.iload_n 3, 1) := by decide +kernel
theorem dX10_lay_50 : decode cX10_lay 50 = .ok (.imul, 1) := by decide +kernel
theorem dX10_lay_51 : decode cX10_lay 51 = .ok (.iload 4, 2) := by decide +kernel
theorem dX10_lay_53 : decode cX10_lay 53 = .ok (.iadd, 1) := by decide +kernel
theorem dX10_lay_54 : decode cX10_lay 54 = .ok (.iaload, 1) := by decide +kernel
theorem dX10_lay_55 : decode cX10_lay 55 = .ok (.iload_n 1, 1) := by decide +kernel
theorem dX10_lay_56 : decode cX10_lay 56 = .ok (.if_icmp .ne 16, 3) := by decide +kernel
theorem dX10_lay_59 : decode cX10_lay 59 = .ok (.aload_n 0, 1) := by decide +kernel
theorem dX10_lay_60 : decode cX10_lay 60 = .ok (.getfield 80, 3) := by decide +kernel
theorem dX10_lay_63 : decode cX10_lay 63 = .ok (.bipush 25, 2) := by decide +kernel
theorem dX10_lay_65 : decode cX10_lay 65 = .ok (.iload_n 3, 1) := by decide +kernel
theorem dX10_lay_66 : decode cX10_lay 66 = .ok (.imul, 1) := by decide +kernel
theorem dX10_lay_67 : decode cX10_lay 67 = .ok (.iload 4, 2) := by decide +kernel
theorem dX10_lay_69 : decode cX10_lay 69 = .ok (.iadd, 1) := by decide +kernel
theorem dX10_lay_70 : decode cX10_lay 70 = .ok (.iconst 1, 1) := by decide +kernel
theorem dX10_lay_71 : decode cX10_lay 71 = .ok (.bastore, 1) := by decide +kernel
theorem dX10_lay_72 : decode cX10_lay 72 = .ok (.iinc 4 1, 3) := by decide +kernel
theorem dX10_lay_75 : decode cX10_lay 75 = .ok (.goto (-43), 3) := by decide +kernel
theorem dX10_lay_78 : decode cX10_lay 78 = .ok (.iinc 3 1, 3) := by decide +kernel
theorem dX10_lay_81 : decode cX10_lay 81 = .ok (.goto (-69), 3) := by decide +kernel
theorem dX10_lay_84 : decode cX10_lay 84 = .ok (.return_, 1) := by decide +kernel
set_option maxRecDepth 20000 in
theorem ggX10_owe_X10_isCitizen : GoodIn wsX10_owe wsX10_isCitizen := goodIn_r _ [9, 10, 11, 12, 8, 13, 22, 23, 24, 25, 26, 27, 28, 29, 30, 31, 32, 33, 34, 35, 36, 37, 38, 39, 40, 41, 42, 43, 44, 45, 46, 47, 48, 49, 50, 51, 52, 53, 54, 55, 56, 57, 58, 59, 60, 61, 62, 63, 64, 65, 66, 67, 68, 69, 70, 71] (by decide +kernel) (by decide +kernel)
set_option maxRecDepth 20000 in
theorem gX10_owe_X10_isCitizen : GoodIn wsX10_owe (wsV RX10 240 RX10 yX10_isCitizen wsX10_isCitizen) := goodIn_app (goodIn_of _ (by decide +kernel)) ggX10_owe_X10_isCitizen
set_option maxRecDepth 20000 in
theorem ggX10_owe_X10_in : GoodIn wsX10_owe wsX10_in := goodIn_r _ [13] (by decide +kernel) (by decide +kernel)
set_option maxRecDepth 20000 in
theorem gX10_owe_X10_in : GoodIn wsX10_owe (va_wsS RX10 194 yX10_in wsX10_in) := goodIn_app (goodIn_of _ (by decide +kernel)) ggX10_owe_X10_in
set_option maxRecDepth 20000 in
theorem ggX10_owe_X10_lay : GoodIn wsX10_owe wsX10_lay := goodIn_r _ [17, 3, 18, 19, 20, 21, 22, 23, 24, 25, 26, 27, 28, 29, 30, 31, 32, 33, 34, 35, 36, 37, 38, 39, 40, 41, 42, 43, 44, 45, 46, 47, 48, 49, 50, 51, 52, 53, 54, 55, 56, 57, 58, 59, 60, 61, 62, 63, 64, 65, 66, 67, 68, 69, 70, 71] (by decide +kernel) (by decide +kernel)
set_option maxRecDepth 20000 in
theorem gX10_owe_X10_lay : GoodIn wsX10_owe (wsV RX10 247 RX10 yX10_lay wsX10_lay) := goodIn_app (goodIn_of _ (by decide +kernel)) ggX10_owe_X10_lay
theorem dX10_owe_0 : decode cX10_owe 0 = .ok (.aload_n 0, 1) := by decide +kernel
theorem dX10_owe_1 : decode cX10_owe 1 = .ok (.iload_n 1, 1) := by decide +kernel
theorem dX10_owe_2 : decode cX10_owe 2 = .ok (.invokevirtual 240, 3) := by decide +kernel
theorem dX10_owe_5 : decode cX10_owe 5 = .ok (.ifCond .eq 46, 3) := by decide +kernel
theorem dX10_owe_8 : decode cX10_owe 8 = .ok (.iload_n 2, 1) := by decide +kernel
theorem dX10_owe_9 : decode cX10_owe 9 = .ok (.i2l, 1) := by decide +kernel
theorem dX10_owe_10 : decode cX10_owe 10 = .ok (.lconst 1, 1) := by decide +kernel
theorem dX10_owe_11 : decode cX10_owe 11 = .ok (.ldc2_w 243, 3) := by decide +kernel
theorem dX10_owe_14 : decode cX10_owe 14 = .ok (.invokestatic 194, 3) := by decide +kernel
theorem dX10_owe_17 : decode cX10_owe 17 = .ok (.ifCond .eq 34, 3) := by decide +kernel
theorem dX10_owe_20 : decode cX10_owe 20 = .ok (.iload_n 3, 1) := by decide +kernel
theorem dX10_owe_21 : decode cX10_owe 21 = .ok (.i2l, 1) := by decide +kernel
theorem dX10_owe_22 : decode cX10_owe 22 = .ok (.lconst 0, 1) := by decide +kernel
theorem dX10_owe_23 : decode cX10_owe 23 = .ok (.aload_n 0, 1) := by decide +kernel
theorem dX10_owe_24 : decode cX10_owe 24 = .ok (.getfield 189, 3) := by decide +kernel
theorem dX10_owe_27 : decode cX10_owe 27 = .ok (.i2l, 1) := by decide +kernel
theorem dX10_owe_28 : decode cX10_owe 28 = .ok (.invokestatic 194, 3) := by decide +kernel
theorem dX10_owe_31 : decode cX10_owe 31 = .ok (.ifCond .eq 20, 3) := by decide +kernel
theorem dX10_owe_34 : decode cX10_owe 34 = .ok (.aload_n 0, 1) := by decide +kernel
theorem dX10_owe_35 : decode cX10_owe 35 = .ok (.getfield 40, 3) := by decide +kernel
theorem dX10_owe_38 : decode cX10_owe 38 = .ok (.iload_n 1, 1) := by decide +kernel
theorem dX10_owe_39 : decode cX10_owe 39 = .ok (.iaload, 1) := by decide +kernel
theorem dX10_owe_40 : decode cX10_owe 40 = .ok (.i2l, 1) := by decide +kernel
theorem dX10_owe_41 : decode cX10_owe 41 = .ok (.iload_n 2, 1) := by decide +kernel
theorem dX10_owe_42 : decode cX10_owe 42 = .ok (.i2l, 1) := by decide +kernel
theorem dX10_owe_43 : decode cX10_owe 43 = .ok (.ladd, 1) := by decide +kernel
theorem dX10_owe_44 : decode cX10_owe 44 = .ok (.ldc2_w 245, 3) := by decide +kernel
theorem dX10_owe_47 : decode cX10_owe 47 = .ok (.lcmp, 1) := by decide +kernel
theorem dX10_owe_48 : decode cX10_owe 48 = .ok (.ifCond .le 6, 3) := by decide +kernel
theorem dX10_owe_51 : decode cX10_owe 51 = .ok (.bipush (-2), 2) := by decide +kernel
theorem dX10_owe_53 : decode cX10_owe 53 = .ok (.ireturn, 1) := by decide +kernel
theorem dX10_owe_54 : decode cX10_owe 54 = .ok (.aload_n 0, 1) := by decide +kernel
theorem dX10_owe_55 : decode cX10_owe 55 = .ok (.iload_n 1, 1) := by decide +kernel
theorem dX10_owe_56 : decode cX10_owe 56 = .ok (.iload_n 2, 1) := by decide +kernel
theorem dX10_owe_57 : decode cX10_owe 57 = .ok (.invokevirtual 247, 3) := by decide +kernel
theorem dX10_owe_60 : decode cX10_owe 60 = .ok (.aload_n 0, 1) := by decide +kernel
theorem dX10_owe_61 : decode cX10_owe 61 = .ok (.getfield 40, 3) := by decide +kernel
theorem dX10_owe_64 : decode cX10_owe 64 = .ok (.iload_n 1, 1) := by decide +kernel
theorem dX10_owe_65 : decode cX10_owe 65 = .ok (.iaload, 1) := by decide +kernel
theorem dX10_owe_66 : decode cX10_owe 66 = .ok (.ireturn, 1) := by decide +kernel
set_option maxRecDepth 20000 in
theorem ggX10_pay_X10_isCitizen : GoodIn wsX10_pay wsX10_isCitizen := goodIn_r _ [6, 7, 8, 9, 5, 10, 11, 12, 13, 14, 15, 16, 17, 18, 19, 20, 21, 22, 23, 24, 25, 26, 27, 28, 29, 30, 31, 32, 33, 34, 35, 36, 37, 38, 39, 40, 41, 42, 43, 44, 45, 46, 47, 48, 49, 50, 51, 52, 53, 54, 55, 56, 57, 58, 59, 60] (by decide +kernel) (by decide +kernel)
set_option maxRecDepth 20000 in
theorem gX10_pay_X10_isCitizen : GoodIn wsX10_pay (wsV RX10 240 RX10 yX10_isCitizen wsX10_isCitizen) := goodIn_app (goodIn_of _ (by decide +kernel)) ggX10_pay_X10_isCitizen
set_option maxRecDepth 20000 in
theorem ggX10_pay_X10_in : GoodIn wsX10_pay wsX10_in := goodIn_r _ [10] (by decide +kernel) (by decide +kernel)
set_option maxRecDepth 20000 in
theorem gX10_pay_X10_in : GoodIn wsX10_pay (va_wsS RX10 194 yX10_in wsX10_in) := goodIn_app (goodIn_of _ (by decide +kernel)) ggX10_pay_X10_in
theorem dX10_pay_0 : decode cX10_pay 0 = .ok (.aload_n 0, 1) := by decide +kernel
theorem dX10_pay_1 : decode cX10_pay 1 = .ok (.iload_n 1, 1) := by decide +kernel
theorem dX10_pay_2 : decode cX10_pay 2 = .ok (.invokevirtual 240, 3) := by decide +kernel
theorem dX10_pay_5 : decode cX10_pay 5 = .ok (.ifCond .eq 19, 3) := by decide +kernel
theorem dX10_pay_8 : decode cX10_pay 8 = .ok (.iload_n 2, 1) := by decide +kernel
theorem dX10_pay_9 : decode cX10_pay 9 = .ok (.i2l, 1) := by decide +kernel
theorem dX10_pay_10 : decode cX10_pay 10 = .ok (.lconst 1, 1) := by decide +kernel
theorem dX10_pay_11 : decode cX10_pay 11 = .ok (.aload_n 0, 1) := by decide +kernel
theorem dX10_pay_12 : decode cX10_pay 12 = .ok (.getfield 40, 3) := by decide +kernel
theorem dX10_pay_15 : decode cX10_pay 15 = .ok (.iload_n 1, 1) := by decide +kernel
theorem dX10_pay_16 : decode cX10_pay 16 = .ok (.iaload, 1) := by decide +kernel
theorem dX10_pay_17 : decode cX10_pay 17 = .ok (.i2l, 1) := by decide +kernel
theorem dX10_pay_18 : decode cX10_pay 18 = .ok (.invokestatic 194, 3) := by decide +kernel
theorem dX10_pay_21 : decode cX10_pay 21 = .ok (.ifCond .ne 6, 3) := by decide +kernel
theorem dX10_pay_24 : decode cX10_pay 24 = .ok (.bipush (-2), 2) := by decide +kernel
theorem dX10_pay_26 : decode cX10_pay 26 = .ok (.ireturn, 1) := by decide +kernel
theorem dX10_pay_27 : decode cX10_pay 27 = .ok (.aload_n 0, 1) := by decide +kernel
theorem dX10_pay_28 : decode cX10_pay 28 = .ok (.getfield 40, 3) := by decide +kernel
theorem dX10_pay_31 : decode cX10_pay 31 = .ok (.iload_n 1, 1) := by decide +kernel
theorem dX10_pay_32 : decode cX10_pay 32 = .ok (.dup2, 1) := by decide +kernel
theorem dX10_pay_33 : decode cX10_pay 33 = .ok (.iaload, 1) := by decide +kernel
theorem dX10_pay_34 : decode cX10_pay 34 = .ok (.iload_n 2, 1) := by decide +kernel
theorem dX10_pay_35 : decode cX10_pay 35 = .ok (.isub, 1) := by decide +kernel
theorem dX10_pay_36 : decode cX10_pay 36 = .ok (.iastore, 1) := by decide +kernel
theorem dX10_pay_37 : decode cX10_pay 37 = .ok (.aload_n 0, 1) := by decide +kernel
theorem dX10_pay_38 : decode cX10_pay 38 = .ok (.getfield 40, 3) := by decide +kernel
theorem dX10_pay_41 : decode cX10_pay 41 = .ok (.iload_n 1, 1) := by decide +kernel
theorem dX10_pay_42 : decode cX10_pay 42 = .ok (.iaload, 1) := by decide +kernel
theorem dX10_pay_43 : decode cX10_pay 43 = .ok (.ireturn, 1) := by decide +kernel
set_option maxRecDepth 20000 in
theorem ggX10_maySit_X10_lawOf : GoodIn wsX10_maySit wsX10_lawOf := goodIn_r _ [9, 10, 11, 12, 13, 8, 14, 15, 16, 17, 18, 19, 20, 21, 22, 23, 24, 25, 26, 27, 28, 29, 30, 31, 32, 33, 34, 35, 36, 37, 38, 39, 40, 41, 42, 43, 44, 45, 46, 47, 48, 49, 50, 51, 52, 53, 54, 55, 56, 57, 58, 59, 60, 61, 62, 63, 64, 65, 66, 67, 68, 69] (by decide +kernel) (by decide +kernel)
set_option maxRecDepth 20000 in
theorem gX10_maySit_X10_lawOf : GoodIn wsX10_maySit (wsV RX10 212 RX10 yX10_lawOf wsX10_lawOf) := goodIn_app (goodIn_of _ (by decide +kernel)) ggX10_maySit_X10_lawOf
theorem dX10_maySit_0 : decode cX10_maySit 0 = .ok (.aload_n 0, 1) := by decide +kernel
theorem dX10_maySit_1 : decode cX10_maySit 1 = .ok (.getfield 37, 3) := by decide +kernel
theorem dX10_maySit_4 : decode cX10_maySit 4 = .ok (.iload_n 1, 1) := by decide +kernel
theorem dX10_maySit_5 : decode cX10_maySit 5 = .ok (.baload, 1) := by decide +kernel
theorem dX10_maySit_6 : decode cX10_maySit 6 = .ok (.ifCond .eq 39, 3) := by decide +kernel
theorem dX10_maySit_9 : decode cX10_maySit 9 = .ok (.aload_n 0, 1) := by decide +kernel
theorem dX10_maySit_10 : decode cX10_maySit 10 = .ok (.getfield 40, 3) := by decide +kernel
theorem dX10_maySit_13 : decode cX10_maySit 13 = .ok (.iload_n 1, 1) := by decide +kernel
theorem dX10_maySit_14 : decode cX10_maySit 14 = .ok (.iaload, 1) := by decide +kernel
theorem dX10_maySit_15 : decode cX10_maySit 15 = .ok (.ifCond .ne 30, 3) := by decide +kernel
theorem dX10_maySit_18 : decode cX10_maySit 18 = .ok (.aload_n 0, 1) := by decide +kernel
theorem dX10_maySit_19 : decode cX10_maySit 19 = .ok (.getfield 189, 3) := by decide +kernel
theorem dX10_maySit_22 : decode cX10_maySit 22 = .ok (.aload_n 0, 1) := by decide +kernel
theorem dX10_maySit_23 : decode cX10_maySit 23 = .ok (.getfield 34, 3) := by decide +kernel
theorem dX10_maySit_26 : decode cX10_maySit 26 = .ok (.iload_n 1, 1) := by decide +kernel
theorem dX10_maySit_27 : decode cX10_maySit 27 = .ok (.iaload, 1) := by decide +kernel
theorem dX10_maySit_28 : decode cX10_maySit 28 = .ok (.isub, 1) := by decide +kernel
theorem dX10_maySit_29 : decode cX10_maySit 29 = .ok (.aload_n 0, 1) := by decide +kernel
theorem dX10_maySit_30 : decode cX10_maySit 30 = .ok (.aload_n 0, 1) := by decide +kernel
theorem dX10_maySit_31 : decode cX10_maySit 31 = .ok (.getfield 189, 3) := by decide +kernel
theorem dX10_maySit_34 : decode cX10_maySit 34 = .ok (.iconst 0, 1) := by decide +kernel
theorem dX10_maySit_35 : decode cX10_maySit 35 = .ok (.invokevirtual 212, 3) := by decide +kernel
theorem dX10_maySit_38 : decode cX10_maySit 38 = .ok (.if_icmp .lt 7, 3) := by decide +kernel
theorem dX10_maySit_41 : decode cX10_maySit 41 = .ok (.iconst 1, 1) := by decide +kernel
theorem dX10_maySit_42 : decode cX10_maySit 42 = .ok (.goto 4, 3) := by decide +kernel
theorem dX10_maySit_45 : decode cX10_maySit 45 = .ok (.iconst 0, 1) := by decide +kernel
theorem dX10_maySit_46 : decode cX10_maySit 46 = .ok (.ireturn, 1) := by decide +kernel
set_option maxRecDepth 20000 in
theorem ggX10_about_X10_isCitizen : GoodIn wsX10_about wsX10_isCitizen := goodIn_r _ [14, 15, 16, 17, 13, 18, 38, 39, 40, 41, 42, 43, 44, 45, 46, 47, 48, 49, 50, 51, 52, 53, 54, 55, 56, 57, 58, 59, 60, 61, 62, 63, 64, 65, 66, 67, 68, 69, 70, 71, 72, 73, 74, 75, 76, 77, 78, 79, 80, 81, 82, 83, 84, 85, 86, 87] (by decide +kernel) (by decide +kernel)
set_option maxRecDepth 20000 in
theorem gX10_about_X10_isCitizen : GoodIn wsX10_about (wsV RX10 240 RX10 yX10_isCitizen wsX10_isCitizen) := goodIn_app (goodIn_of _ (by decide +kernel)) ggX10_about_X10_isCitizen
set_option maxRecDepth 20000 in
theorem ggX10_about_X10_maySit : GoodIn wsX10_about wsX10_maySit := goodIn_r _ [22, 4, 5, 23, 3, 24, 25, 26, 13, 27, 28, 29, 30, 31, 32, 33, 34, 35, 36, 37, 38, 39, 40, 41, 42, 43, 44, 45, 46, 47, 48, 49, 50, 51, 52, 53, 54, 55, 56, 57, 58, 59, 60, 61, 62, 63, 64, 65, 66, 67, 68, 69, 70, 71, 72, 73, 74, 75, 76, 77, 78, 79, 80, 81, 82, 83, 84, 85, 86, 87] (by decide +kernel) (by decide +kernel)
set_option maxRecDepth 20000 in
theorem gX10_about_X10_maySit : GoodIn wsX10_about (wsV RX10 251 RX10 yX10_maySit wsX10_maySit) := goodIn_app (goodIn_of _ (by decide +kernel)) ggX10_about_X10_maySit
theorem dX10_about_0 : decode cX10_about 0 = .ok (.aload_n 0, 1) := by decide +kernel
theorem dX10_about_1 : decode cX10_about 1 = .ok (.iload_n 1, 1) := by decide +kernel
theorem dX10_about_2 : decode cX10_about 2 = .ok (.invokevirtual 240, 3) := by decide +kernel
theorem dX10_about_5 : decode cX10_about 5 = .ok (.ifCond .ne 5, 3) := by decide +kernel
theorem dX10_about_8 : decode cX10_about 8 = .ok (.iconst (-1), 1) := by decide +kernel
theorem dX10_about_9 : decode cX10_about 9 = .ok (.ireturn, 1) := by decide +kernel
theorem dX10_about_10 : decode cX10_about 10 = .ok (.iload_n 2, 1) := by decide +kernel
theorem dX10_about_11 : decode cX10_about 11 = .ok (.tableswitch 146 0 9 #[53, 60, 67, 74, 89, 96, 110, 117, 132, 139], 53) := by decide +kernel
theorem dX10_about_64 : decode cX10_about 64 = .ok (.aload_n 0, 1) := by decide +kernel
theorem dX10_about_65 : decode cX10_about 65 = .ok (.getfield 28, 3) := by decide +kernel
theorem dX10_about_68 : decode cX10_about 68 = .ok (.iload_n 1, 1) := by decide +kernel
theorem dX10_about_69 : decode cX10_about 69 = .ok (.iaload, 1) := by decide +kernel
theorem dX10_about_70 : decode cX10_about 70 = .ok (.ireturn, 1) := by decide +kernel
theorem dX10_about_71 : decode cX10_about 71 = .ok (.aload_n 0, 1) := by decide +kernel
theorem dX10_about_72 : decode cX10_about 72 = .ok (.getfield 31, 3) := by decide +kernel
theorem dX10_about_75 : decode cX10_about 75 = .ok (.iload_n 1, 1) := by decide +kernel
theorem dX10_about_76 : decode cX10_about 76 = .ok (.iaload, 1) := by decide +kernel
theorem dX10_about_77 : decode cX10_about 77 = .ok (.ireturn, 1) := by decide +kernel
theorem dX10_about_78 : decode cX10_about 78 = .ok (.aload_n 0, 1) := by decide +kernel
theorem dX10_about_79 : decode cX10_about 79 = .ok (.getfield 34, 3) := by decide +kernel
theorem dX10_about_82 : decode cX10_about 82 = .ok (.iload_n 1, 1) := by decide +kernel
theorem dX10_about_83 : decode cX10_about 83 = .ok (.iaload, 1) := by decide +kernel
theorem dX10_about_84 : decode cX10_about 84 = .ok (.ireturn, 1) := by decide +kernel
theorem dX10_about_85 : decode cX10_about 85 = .ok (.aload_n 0, 1) := by decide +kernel
theorem dX10_about_86 : decode cX10_about 86 = .ok (.getfield 37, 3) := by decide +kernel
theorem dX10_about_89 : decode cX10_about 89 = .ok (.iload_n 1, 1) := by decide +kernel
theorem dX10_about_90 : decode cX10_about 90 = .ok (.baload, 1) := by decide +kernel
theorem dX10_about_91 : decode cX10_about 91 = .ok (.ifCond .eq 7, 3) := by decide +kernel
theorem dX10_about_94 : decode cX10_about 94 = .ok (.iconst 1, 1) := by decide +kernel
theorem dX10_about_95 : decode cX10_about 95 = .ok (.goto 4, 3) := by decide +kernel
theorem dX10_about_98 : decode cX10_about 98 = .ok (.iconst 0, 1) := by decide +kernel
theorem dX10_about_99 : decode cX10_about 99 = .ok (.ireturn, 1) := by decide +kernel
theorem dX10_about_100 : decode cX10_about 100 = .ok (.aload_n 0, 1) := by decide +kernel
theorem dX10_about_101 : decode cX10_about 101 = .ok (.getfield 40, 3) := by decide +kernel
theorem dX10_about_104 : decode cX10_about 104 = .ok (.iload_n 1, 1) := by decide +kernel
theorem dX10_about_105 : decode cX10_about 105 = .ok (.iaload, 1) := by decide +kernel
theorem dX10_about_106 : decode cX10_about 106 = .ok (.ireturn, 1) := by decide +kernel
theorem dX10_about_107 : decode cX10_about 107 = .ok (.aload_n 0, 1) := by decide +kernel
theorem dX10_about_108 : decode cX10_about 108 = .ok (.iload_n 1, 1) := by decide +kernel
theorem dX10_about_109 : decode cX10_about 109 = .ok (.invokevirtual 251, 3) := by decide +kernel
theorem dX10_about_112 : decode cX10_about 112 = .ok (.ifCond .eq 7, 3) := by decide +kernel
theorem dX10_about_115 : decode cX10_about 115 = .ok (.iconst 1, 1) := by decide +kernel
theorem dX10_about_116 : decode cX10_about 116 = .ok (.goto 4, 3) := by decide +kernel
theorem dX10_about_119 : decode cX10_about 119 = .ok (.iconst 0, 1) := by decide +kernel
theorem dX10_about_120 : decode cX10_about 120 = .ok (.ireturn, 1) := by decide +kernel
theorem dX10_about_121 : decode cX10_about 121 = .ok (.aload_n 0, 1) := by decide +kernel
theorem dX10_about_122 : decode cX10_about 122 = .ok (.getfield 46, 3) := by decide +kernel
theorem dX10_about_125 : decode cX10_about 125 = .ok (.iload_n 1, 1) := by decide +kernel
theorem dX10_about_126 : decode cX10_about 126 = .ok (.iaload, 1) := by decide +kernel
theorem dX10_about_127 : decode cX10_about 127 = .ok (.ireturn, 1) := by decide +kernel
theorem dX10_about_128 : decode cX10_about 128 = .ok (.aload_n 0, 1) := by decide +kernel
theorem dX10_about_129 : decode cX10_about 129 = .ok (.getfield 49, 3) := by decide +kernel
theorem dX10_about_132 : decode cX10_about 132 = .ok (.iload_n 1, 1) := by decide +kernel
theorem dX10_about_133 : decode cX10_about 133 = .ok (.baload, 1) := by decide +kernel
theorem dX10_about_134 : decode cX10_about 134 = .ok (.ifCond .eq 7, 3) := by decide +kernel
theorem dX10_about_137 : decode cX10_about 137 = .ok (.iconst 1, 1) := by decide +kernel
theorem dX10_about_138 : decode cX10_about 138 = .ok (.goto 4, 3) := by decide +kernel
theorem dX10_about_141 : decode cX10_about 141 = .ok (.iconst 0, 1) := by decide +kernel
theorem dX10_about_142 : decode cX10_about 142 = .ok (.ireturn, 1) := by decide +kernel
theorem dX10_about_143 : decode cX10_about 143 = .ok (.aload_n 0, 1) := by decide +kernel
theorem dX10_about_144 : decode cX10_about 144 = .ok (.getfield 52, 3) := by decide +kernel
theorem dX10_about_147 : decode cX10_about 147 = .ok (.iload_n 1, 1) := by decide +kernel
theorem dX10_about_148 : decode cX10_about 148 = .ok (.iaload, 1) := by decide +kernel
theorem dX10_about_149 : decode cX10_about 149 = .ok (.ireturn, 1) := by decide +kernel
theorem dX10_about_150 : decode cX10_about 150 = .ok (.aload_n 0, 1) := by decide +kernel
theorem dX10_about_151 : decode cX10_about 151 = .ok (.getfield 43, 3) := by decide +kernel
theorem dX10_about_154 : decode cX10_about 154 = .ok (.iload_n 1, 1) := by decide +kernel
theorem dX10_about_155 : decode cX10_about 155 = .ok (.iaload, 1) := by decide +kernel
theorem dX10_about_156 : decode cX10_about 156 = .ok (.ireturn, 1) := by decide +kernel
theorem dX10_about_157 : decode cX10_about 157 = .ok (.iconst (-1), 1) := by decide +kernel
theorem dX10_about_158 : decode cX10_about 158 = .ok (.ireturn, 1) := by decide +kernel
set_option maxRecDepth 20000 in
theorem ggX10_now_X10_in : GoodIn wsX10_now wsX10_in := goodIn_r _ [13] (by decide +kernel) (by decide +kernel)
set_option maxRecDepth 20000 in
theorem gX10_now_X10_in : GoodIn wsX10_now (va_wsS RX10 194 yX10_in wsX10_in) := goodIn_app (goodIn_of _ (by decide +kernel)) ggX10_now_X10_in
set_option maxRecDepth 20000 in
theorem ggX10_now_X10_shutAll : GoodIn wsX10_now wsX10_shutAll := goodIn_r _ [17, 18, 19, 20, 21, 22, 23, 24, 25, 26, 27, 28, 29, 30, 31, 32, 33, 34, 35, 36, 37, 38, 39, 40, 41, 42, 43, 44, 45, 46, 47, 48, 49, 50, 51, 52, 53, 54, 55, 56, 57, 58, 59, 60, 61, 62, 63, 64, 65, 66, 67, 68, 69, 70, 71] (by decide +kernel) (by decide +kernel)
set_option maxRecDepth 20000 in
theorem gX10_now_X10_shutAll : GoodIn wsX10_now (wsV RX10 119 RX10 yX10_shutAll wsX10_shutAll) := goodIn_app (goodIn_of _ (by decide +kernel)) ggX10_now_X10_shutAll
theorem dX10_now_0 : decode cX10_now 0 = .ok (.iload_n 1, 1) := by decide +kernel
theorem dX10_now_1 : decode cX10_now 1 = .ok (.i2l, 1) := by decide +kernel
theorem dX10_now_2 : decode cX10_now 2 = .ok (.aload_n 0, 1) := by decide +kernel
theorem dX10_now_3 : decode cX10_now 3 = .ok (.getfield 189, 3) := by decide +kernel
theorem dX10_now_6 : decode cX10_now 6 = .ok (.iconst 1, 1) := by decide +kernel
theorem dX10_now_7 : decode cX10_now 7 = .ok (.iadd, 1) := by decide +kernel
theorem dX10_now_8 : decode cX10_now 8 = .ok (.i2l, 1) := by decide +kernel
theorem dX10_now_9 : decode cX10_now 9 = .ok (.ldc2_w 192, 3) := by decide +kernel
theorem dX10_now_12 : decode cX10_now 12 = .ok (.invokestatic 194, 3) := by decide +kernel
theorem dX10_now_15 : decode cX10_now 15 = .ok (.ifCond .ne 6, 3) := by decide +kernel
theorem dX10_now_18 : decode cX10_now 18 = .ok (.bipush (-2), 2) := by decide +kernel
theorem dX10_now_20 : decode cX10_now 20 = .ok (.ireturn, 1) := by decide +kernel
theorem dX10_now_21 : decode cX10_now 21 = .ok (.aload_n 0, 1) := by decide +kernel
theorem dX10_now_22 : decode cX10_now 22 = .ok (.iload_n 1, 1) := by decide +kernel
theorem dX10_now_23 : decode cX10_now 23 = .ok (.putfield 189, 3) := by decide +kernel
theorem dX10_now_26 : decode cX10_now 26 = .ok (.iconst 0, 1) := by decide +kernel
theorem dX10_now_27 : decode cX10_now 27 = .ok (.istore_n 2, 1) := by decide +kernel
theorem dX10_now_28 : decode cX10_now 28 = .ok (.iload_n 2, 1) := by decide +kernel
theorem dX10_now_29 : decode cX10_now 29 = .ok (.aload_n 0, 1) := by decide +kernel
theorem dX10_now_30 : decode cX10_now 30 = .ok (.getfield 231, 3) := by decide +kernel
theorem dX10_now_33 : decode cX10_now 33 = .ok (.if_icmp .ge 30, 3) := by decide +kernel
theorem dX10_now_36 : decode cX10_now 36 = .ok (.aload_n 0, 1) := by decide +kernel
theorem dX10_now_37 : decode cX10_now 37 = .ok (.getfield 46, 3) := by decide +kernel
theorem dX10_now_40 : decode cX10_now 40 = .ok (.iload_n 2, 1) := by decide +kernel
theorem dX10_now_41 : decode cX10_now 41 = .ok (.iconst (-1), 1) := by decide +kernel
theorem dX10_now_42 : decode cX10_now 42 = .ok (.iastore, 1) := by decide +kernel
theorem dX10_now_43 : decode cX10_now 43 = .ok (.aload_n 0, 1) := by decide +kernel
theorem dX10_now_44 : decode cX10_now 44 = .ok (.getfield 49, 3) := by decide +kernel
theorem dX10_now_47 : decode cX10_now 47 = .ok (.iload_n 2, 1) := by decide +kernel
theorem dX10_now_48 : decode cX10_now 48 = .ok (.iconst 0, 1) := by decide +kernel
theorem dX10_now_49 : decode cX10_now 49 = .ok (.bastore, 1) := by decide +kernel
theorem dX10_now_50 : decode cX10_now 50 = .ok (.aload_n 0, 1) := by decide +kernel
theorem dX10_now_51 : decode cX10_now 51 = .ok (.getfield 52, 3) := by decide +kernel
theorem dX10_now_54 : decode cX10_now 54 = .ok (.iload_n 2, 1) := by decide +kernel
theorem dX10_now_55 : decode cX10_now 55 = .ok (.iconst (-1), 1) := by decide +kernel
theorem dX10_now_56 : decode cX10_now 56 = .ok (.iastore, 1) := by decide +kernel
theorem dX10_now_57 : decode cX10_now 57 = .ok (.iinc 2 1, 3) := by decide +kernel
theorem dX10_now_60 : decode cX10_now 60 = .ok (.goto (-32), 3) := by decide +kernel
theorem dX10_now_63 : decode cX10_now 63 = .ok (.iconst 0, 1) := by decide +kernel
theorem dX10_now_64 : decode cX10_now 64 = .ok (.istore_n 2, 1) := by decide +kernel
theorem dX10_now_65 : decode cX10_now 65 = .ok (.iload_n 2, 1) := by decide +kernel
theorem dX10_now_66 : decode cX10_now 66 = .ok (.bipush 10, 2) := by decide +kernel
theorem dX10_now_68 : decode cX10_now 68 = .ok (.if_icmp .ge 16, 3) := by decide +kernel
theorem dX10_now_71 : decode cX10_now 71 = .ok (.aload_n 0, 1) := by decide +kernel
theorem dX10_now_72 : decode cX10_now 72 = .ok (.getfield 55, 3) := by decide +kernel
theorem dX10_now_75 : decode cX10_now 75 = .ok (.iload_n 2, 1) := by decide +kernel
theorem dX10_now_76 : decode cX10_now 76 = .ok (.iconst 0, 1) := by decide +kernel
theorem dX10_now_77 : decode cX10_now 77 = .ok (.bastore, 1) := by decide +kernel
theorem dX10_now_78 : decode cX10_now 78 = .ok (.iinc 2 1, 3) := by decide +kernel
theorem dX10_now_81 : decode cX10_now 81 = .ok (.goto (-16), 3) := by decide +kernel
theorem dX10_now_84 : decode cX10_now 84 = .ok (.aload_n 0, 1) := by decide +kernel
theorem dX10_now_85 : decode cX10_now 85 = .ok (.iconst 0, 1) := by decide +kernel
theorem dX10_now_86 : decode cX10_now 86 = .ok (.putfield 254, 3) := by decide +kernel
theorem dX10_now_89 : decode cX10_now 89 = .ok (.aload_n 0, 1) := by decide +kernel
theorem dX10_now_90 : decode cX10_now 90 = .ok (.iconst 0, 1) := by decide +kernel
theorem dX10_now_91 : decode cX10_now 91 = .ok (.putfield 257, 3) := by decide +kernel
theorem dX10_now_94 : decode cX10_now 94 = .ok (.aload_n 0, 1) := by decide +kernel
theorem dX10_now_95 : decode cX10_now 95 = .ok (.invokevirtual 119, 3) := by decide +kernel
theorem dX10_now_98 : decode cX10_now 98 = .ok (.iload_n 1, 1) := by decide +kernel
theorem dX10_now_99 : decode cX10_now 99 = .ok (.ireturn, 1) := by decide +kernel
theorem dX10_column_0 : decode cX10_column 0 = .ok (.iconst 0, 1) := by decide +kernel
theorem dX10_column_1 : decode cX10_column 1 = .ok (.istore_n 3, 1) := by decide +kernel
theorem dX10_column_2 : decode cX10_column 2 = .ok (.iconst 0, 1) := by decide +kernel
theorem dX10_column_3 : decode cX10_column 3 = .ok (.istore 4, 2) := by decide +kernel
theorem dX10_column_5 : decode cX10_column 5 = .ok (.iload 4, 2) := by decide +kernel
theorem dX10_column_7 : decode cX10_column 7 = .ok (.aload_n 0, 1) := by decide +kernel
theorem dX10_column_8 : decode cX10_column 8 = .ok (.getfield 231, 3) := by decide +kernel
theorem dX10_column_11 : decode cX10_column 11 = .ok (.if_icmp .ge 50, 3) := by decide +kernel
theorem dX10_column_14 : decode cX10_column 14 = .ok (.iload_n 3, 1) := by decide +kernel
theorem dX10_column_15 : decode cX10_column 15 = .ok (.aload_n 0, 1) := by decide +kernel
theorem dX10_column_16 : decode cX10_column 16 = .ok (.getfield 28, 3) := by decide +kernel
theorem dX10_column_19 : decode cX10_column 19 = .ok (.iload 4, 2) := by decide +kernel
theorem dX10_column_21 : decode cX10_column 21 = .ok (.iaload, 1) := by decide +kernel
theorem dX10_column_22 : decode cX10_column 22 = .ok (.iload_n 1, 1) := by decide +kernel
theorem dX10_column_23 : decode cX10_column 23 = .ok (.if_icmp .ne 29, 3) := by decide +kernel
theorem dX10_column_26 : decode cX10_column 26 = .ok (.aload_n 0, 1) := by decide +kernel
theorem dX10_column_27 : decode cX10_column 27 = .ok (.getfield 31, 3) := by decide +kernel
theorem dX10_column_30 : decode cX10_column 30 = .ok (.iload 4, 2) := by decide +kernel
theorem dX10_column_32 : decode cX10_column 32 = .ok (.iaload, 1) := by decide +kernel
theorem dX10_column_33 : decode cX10_column 33 = .ok (.iload_n 2, 1) := by decide +kernel
theorem dX10_column_34 : decode cX10_column 34 = .ok (.if_icmp .ne 18, 3) := by decide +kernel
theorem dX10_column_37 : decode cX10_column 37 = .ok (.aload_n 0, 1) := by decide +kernel
theorem dX10_column_38 : decode cX10_column 38 = .ok (.getfield 46, 3) := by decide +kernel
theorem dX10_column_41 : decode cX10_column 41 = .ok (.iload 4, 2) := by decide +kernel
theorem dX10_column_43 : decode cX10_column 43 = .ok (.iaload, 1) := by decide +kernel
theorem dX10_column_44 : decode cX10_column 44 = .ok (.iconst (-1), 1) := by decide +kernel
theorem dX10_column_45 : decode cX10_column 45 = .ok (.if_icmp .eq 7, 3) := by decide +kernel
theorem dX10_column_48 : decode cX10_column 48 = .ok (.iconst 1, 1) := by decide +kernel
theorem dX10_column_49 : decode cX10_column 49 = .ok (.goto 4, 3) := by decide +kernel
theorem dX10_column_52 : decode cX10_column 52 = .ok (.iconst 0, 1) := by decide +kernel
theorem dX10_column_53 : decode cX10_column 53 = .ok (.iadd, 1) := by decide +kernel
theorem dX10_column_54 : decode cX10_column 54 = .ok (.istore_n 3, 1) := by decide +kernel
theorem dX10_column_55 : decode cX10_column 55 = .ok (.iinc 4 1, 3) := by decide +kernel
theorem dX10_column_58 : decode cX10_column 58 = .ok (.goto (-53), 3) := by decide +kernel
theorem dX10_column_61 : decode cX10_column 61 = .ok (.iload_n 3, 1) := by decide +kernel
theorem dX10_column_62 : decode cX10_column 62 = .ok (.ireturn, 1) := by decide +kernel
set_option maxRecDepth 20000 in
theorem ggX10_come_X10_isCitizen : GoodIn wsX10_come wsX10_isCitizen := goodIn_r _ [9, 10, 11, 12, 8, 13, 40, 41, 42, 43, 44, 45, 46, 47, 48, 49, 50, 51, 52, 53, 54, 55, 56, 57, 58, 59, 60, 61, 62, 63, 64, 65, 66, 67, 68, 69, 70, 71, 72, 73, 74, 75, 76, 77, 78, 79, 80, 81, 82, 83, 84, 85, 86, 87, 88, 89] (by decide +kernel) (by decide +kernel)
set_option maxRecDepth 20000 in
theorem gX10_come_X10_isCitizen : GoodIn wsX10_come (wsV RX10 240 RX10 yX10_isCitizen wsX10_isCitizen) := goodIn_app (goodIn_of _ (by decide +kernel)) ggX10_come_X10_isCitizen
set_option maxRecDepth 20000 in
theorem ggX10_come_X10_maySit : GoodIn wsX10_come wsX10_maySit := goodIn_r _ [17, 18, 19, 20, 21, 22, 23, 24, 8, 25, 26, 27, 28, 29, 30, 31, 32, 33, 34, 35, 40, 41, 42, 43, 44, 45, 46, 47, 48, 49, 50, 51, 52, 53, 54, 55, 56, 57, 58, 59, 60, 61, 62, 63, 64, 65, 66, 67, 68, 69, 70, 71, 72, 73, 74, 75, 76, 77, 78, 79, 80, 81, 82, 83, 84, 85, 86, 87, 88, 89] (by decide +kernel) (by decide +kernel)
set_option maxRecDepth 20000 in
theorem gX10_come_X10_maySit : GoodIn wsX10_come (wsV RX10 251 RX10 yX10_maySit wsX10_maySit) := goodIn_app (goodIn_of _ (by decide +kernel)) ggX10_come_X10_maySit
set_option maxRecDepth 20000 in
theorem ggX10_come_X10_column : GoodIn wsX10_come wsX10_column := goodIn_r _ [39, 10, 3, 4, 1, 40, 41, 42, 43, 44, 45, 46, 47, 48, 49, 50, 51, 52, 53, 54, 55, 56, 57, 58, 59, 60, 61, 62, 63, 64, 65, 66, 67, 68, 69, 70, 71, 72, 73, 74, 75, 76, 77, 78, 79, 80, 81, 82, 83, 84, 85, 86, 87, 88, 89] (by decide +kernel) (by decide +kernel)
set_option maxRecDepth 20000 in
theorem gX10_come_X10_column : GoodIn wsX10_come (wsV RX10 260 RX10 yX10_column wsX10_column) := goodIn_app (goodIn_of _ (by decide +kernel)) ggX10_come_X10_column
theorem dX10_come_0 : decode cX10_come 0 = .ok (.aload_n 0, 1) := by decide +kernel
theorem dX10_come_1 : decode cX10_come 1 = .ok (.iload_n 1, 1) := by decide +kernel
theorem dX10_come_2 : decode cX10_come 2 = .ok (.invokevirtual 240, 3) := by decide +kernel
theorem dX10_come_5 : decode cX10_come 5 = .ok (.ifCond .ne 6, 3) := by decide +kernel
theorem dX10_come_8 : decode cX10_come 8 = .ok (.bipush (-2), 2) := by decide +kernel
theorem dX10_come_10 : decode cX10_come 10 = .ok (.ireturn, 1) := by decide +kernel
theorem dX10_come_11 : decode cX10_come 11 = .ok (.aload_n 0, 1) := by decide +kernel
theorem dX10_come_12 : decode cX10_come 12 = .ok (.iload_n 1, 1) := by decide +kernel
theorem dX10_come_13 : decode cX10_come 13 = .ok (.invokevirtual 251, 3) := by decide +kernel
theorem dX10_come_16 : decode cX10_come 16 = .ok (.ifCond .eq 27, 3) := by decide +kernel
theorem dX10_come_19 : decode cX10_come 19 = .ok (.aload_n 0, 1) := by decide +kernel
theorem dX10_come_20 : decode cX10_come 20 = .ok (.getfield 46, 3) := by decide +kernel
theorem dX10_come_23 : decode cX10_come 23 = .ok (.iload_n 1, 1) := by decide +kernel
theorem dX10_come_24 : decode cX10_come 24 = .ok (.iaload, 1) := by decide +kernel
theorem dX10_come_25 : decode cX10_come 25 = .ok (.iconst (-1), 1) := by decide +kernel
theorem dX10_come_26 : decode cX10_come 26 = .ok (.if_icmp .ne 17, 3) := by decide +kernel
theorem dX10_come_29 : decode cX10_come 29 = .ok (.aload_n 0, 1) := by decide +kernel
theorem dX10_come_30 : decode cX10_come 30 = .ok (.getfield 55, 3) := by decide +kernel
theorem dX10_come_33 : decode cX10_come 33 = .ok (.aload_n 0, 1) := by decide +kernel
theorem dX10_come_34 : decode cX10_come 34 = .ok (.getfield 28, 3) := by decide +kernel
theorem dX10_come_37 : decode cX10_come 37 = .ok (.iload_n 1, 1) := by decide +kernel
theorem dX10_come_38 : decode cX10_come 38 = .ok (.iaload, 1) := by decide +kernel
theorem dX10_come_39 : decode cX10_come 39 = .ok (.baload, 1) := by decide +kernel
theorem dX10_come_40 : decode cX10_come 40 = .ok (.ifCond .eq 6, 3) := by decide +kernel
theorem dX10_come_43 : decode cX10_come 43 = .ok (.bipush (-4), 2) := by decide +kernel
theorem dX10_come_45 : decode cX10_come 45 = .ok (.ireturn, 1) := by decide +kernel
theorem dX10_come_46 : decode cX10_come 46 = .ok (.aload_n 0, 1) := by decide +kernel
theorem dX10_come_47 : decode cX10_come 47 = .ok (.getfield 46, 3) := by decide +kernel
theorem dX10_come_50 : decode cX10_come 50 = .ok (.iload_n 1, 1) := by decide +kernel
theorem dX10_come_51 : decode cX10_come 51 = .ok (.aload_n 0, 1) := by decide +kernel
theorem dX10_come_52 : decode cX10_come 52 = .ok (.aload_n 0, 1) := by decide +kernel
theorem dX10_come_53 : decode cX10_come 53 = .ok (.getfield 28, 3) := by decide +kernel
theorem dX10_come_56 : decode cX10_come 56 = .ok (.iload_n 1, 1) := by decide +kernel
theorem dX10_come_57 : decode cX10_come 57 = .ok (.iaload, 1) := by decide +kernel
theorem dX10_come_58 : decode cX10_come 58 = .ok (.aload_n 0, 1) := by decide +kernel
theorem dX10_come_59 : decode cX10_come 59 = .ok (.getfield 31, 3) := by decide +kernel
theorem dX10_come_62 : decode cX10_come 62 = .ok (.iload_n 1, 1) := by decide +kernel
theorem dX10_come_63 : decode cX10_come 63 = .ok (.iaload, 1) := by decide +kernel
theorem dX10_come_64 : decode cX10_come 64 = .ok (.invokevirtual 260, 3) := by decide +kernel
theorem dX10_come_67 : decode cX10_come 67 = .ok (.iastore, 1) := by decide +kernel
theorem dX10_come_68 : decode cX10_come 68 = .ok (.aload_n 0, 1) := by decide +kernel
theorem dX10_come_69 : decode cX10_come 69 = .ok (.getfield 46, 3) := by decide +kernel
theorem dX10_come_72 : decode cX10_come 72 = .ok (.iload_n 1, 1) := by decide +kernel
theorem dX10_come_73 : decode cX10_come 73 = .ok (.iaload, 1) := by decide +kernel
theorem dX10_come_74 : decode cX10_come 74 = .ok (.iconst 1, 1) := by decide +kernel
theorem dX10_come_75 : decode cX10_come 75 = .ok (.iadd, 1) := by decide +kernel
theorem dX10_come_76 : decode cX10_come 76 = .ok (.ireturn, 1) := by decide +kernel
set_option maxRecDepth 20000 in
theorem ggX10_rowsOf_X10_column : GoodIn wsX10_rowsOf wsX10_column := goodIn_r _ [5, 6, 7, 8, 9, 10, 11, 12, 13, 14, 15, 16, 17, 18, 19, 20, 21, 22, 23, 24, 25, 26, 27, 28, 29, 30, 31, 32, 33, 34, 35, 36, 37, 38, 39, 40, 41, 42, 43, 44, 45, 46, 47, 48, 49, 50, 51, 52, 53, 54, 55, 56, 57, 58, 59] (by decide +kernel) (by decide +kernel)
set_option maxRecDepth 20000 in
theorem gX10_rowsOf_X10_column : GoodIn wsX10_rowsOf (wsV RX10 260 RX10 yX10_column wsX10_column) := goodIn_app (goodIn_of _ (by decide +kernel)) ggX10_rowsOf_X10_column
theorem dX10_rowsOf_0 : decode cX10_rowsOf 0 = .ok (.aload_n 0, 1) := by decide +kernel
theorem dX10_rowsOf_1 : decode cX10_rowsOf 1 = .ok (.iload_n 1, 1) := by decide +kernel
theorem dX10_rowsOf_2 : decode cX10_rowsOf 2 = .ok (.iconst 0, 1) := by decide +kernel
theorem dX10_rowsOf_3 : decode cX10_rowsOf 3 = .ok (.invokevirtual 260, 3) := by decide +kernel
theorem dX10_rowsOf_6 : decode cX10_rowsOf 6 = .ok (.istore_n 2, 1) := by decide +kernel
theorem dX10_rowsOf_7 : decode cX10_rowsOf 7 = .ok (.iconst 1, 1) := by decide +kernel
theorem dX10_rowsOf_8 : decode cX10_rowsOf 8 = .ok (.istore_n 3, 1) := by decide +kernel
theorem dX10_rowsOf_9 : decode cX10_rowsOf 9 = .ok (.iload_n 3, 1) := by decide +kernel
theorem dX10_rowsOf_10 : decode cX10_rowsOf 10 = .ok (.iconst 5, 1) := by decide +kernel
theorem dX10_rowsOf_11 : decode cX10_rowsOf 11 = .ok (.if_icmp .ge 30, 3) := by decide +kernel
theorem dX10_rowsOf_14 : decode cX10_rowsOf 14 = .ok (.aload_n 0, 1) := by decide +kernel
theorem dX10_rowsOf_15 : decode cX10_rowsOf 15 = .ok (.iload_n 1, 1) := by decide +kernel
theorem dX10_rowsOf_16 : decode cX10_rowsOf 16 = .ok (.iload_n 3, 1) := by decide +kernel
theorem dX10_rowsOf_17 : decode cX10_rowsOf 17 = .ok (.invokevirtual 260, 3) := by decide +kernel
theorem dX10_rowsOf_20 : decode cX10_rowsOf 20 = .ok (.iload_n 2, 1) := by decide +kernel
theorem dX10_rowsOf_21 : decode cX10_rowsOf 21 = .ok (.if_icmp .ge 12, 3) := by decide +kernel
theorem dX10_rowsOf_24 : decode cX10_rowsOf 24 = .ok (.aload_n 0, 1) := by decide +kernel
theorem dX10_rowsOf_25 : decode cX10_rowsOf 25 = .ok (.iload_n 1, 1) := by decide +kernel
theorem dX10_rowsOf_26 : decode cX10_rowsOf 26 = .ok (.iload_n 3, 1) := by decide +kernel
theorem dX10_rowsOf_27 : decode cX10_rowsOf 27 = .ok (.invokevirtual 260, 3) := by decide +kernel
theorem dX10_rowsOf_30 : decode cX10_rowsOf 30 = .ok (.goto 4, 3) := by decide +kernel
theorem dX10_rowsOf_33 : decode cX10_rowsOf 33 = .ok (.iload_n 2, 1) := by decide +kernel
theorem dX10_rowsOf_34 : decode cX10_rowsOf 34 = .ok (.istore_n 2, 1) := by decide +kernel
theorem dX10_rowsOf_35 : decode cX10_rowsOf 35 = .ok (.iinc 3 1, 3) := by decide +kernel
theorem dX10_rowsOf_38 : decode cX10_rowsOf 38 = .ok (.goto (-29), 3) := by decide +kernel
theorem dX10_rowsOf_41 : decode cX10_rowsOf 41 = .ok (.iload_n 2, 1) := by decide +kernel
theorem dX10_rowsOf_42 : decode cX10_rowsOf 42 = .ok (.ireturn, 1) := by decide +kernel
set_option maxRecDepth 20000 in
theorem ggX10_isTribe_X10_in : GoodIn wsX10_isTribe wsX10_in := goodIn_r _ [5] (by decide +kernel) (by decide +kernel)
set_option maxRecDepth 20000 in
theorem gX10_isTribe_X10_in : GoodIn wsX10_isTribe (va_wsS RX10 194 yX10_in wsX10_in) := goodIn_app (goodIn_of _ (by decide +kernel)) ggX10_isTribe_X10_in
theorem dX10_isTribe_0 : decode cX10_isTribe 0 = .ok (.iload_n 0, 1) := by decide +kernel
theorem dX10_isTribe_1 : decode cX10_isTribe 1 = .ok (.i2l, 1) := by decide +kernel
theorem dX10_isTribe_2 : decode cX10_isTribe 2 = .ok (.lconst 0, 1) := by decide +kernel
theorem dX10_isTribe_3 : decode cX10_isTribe 3 = .ok (.ldc2_w 234, 3) := by decide +kernel
theorem dX10_isTribe_6 : decode cX10_isTribe 6 = .ok (.invokestatic 194, 3) := by decide +kernel
theorem dX10_isTribe_9 : decode cX10_isTribe 9 = .ok (.ireturn, 1) := by decide +kernel
set_option maxRecDepth 20000 in
theorem ggX10_rows_X10_isTribe : GoodIn wsX10_rows wsX10_isTribe := goodIn_r _ [4, 5, 6, 7, 3, 8] (by decide +kernel) (by decide +kernel)
set_option maxRecDepth 20000 in
theorem gX10_rows_X10_isTribe : GoodIn wsX10_rows (va_wsS RX10 263 yX10_isTribe wsX10_isTribe) := goodIn_app (goodIn_of _ (by decide +kernel)) ggX10_rows_X10_isTribe
set_option maxRecDepth 20000 in
theorem ggX10_rows_X10_rowsOf : GoodIn wsX10_rows wsX10_rowsOf := goodIn_r _ [12, 13, 14, 15, 3, 16, 17, 18, 19, 20, 21, 22, 23, 24, 25, 26, 27, 28, 29, 30, 31, 32, 33, 34, 35, 36, 37, 38, 39, 40, 41, 42, 43, 44, 45, 46, 47, 48, 49, 50, 51, 52, 53, 54, 55, 56, 57, 58, 59, 60, 61, 62, 63, 64, 65, 66, 67, 68, 69, 70] (by decide +kernel) (by decide +kernel)
set_option maxRecDepth 20000 in
theorem gX10_rows_X10_rowsOf : GoodIn wsX10_rows (wsV RX10 266 RX10 yX10_rowsOf wsX10_rowsOf) := goodIn_app (goodIn_of _ (by decide +kernel)) ggX10_rows_X10_rowsOf
theorem dX10_rows_0 : decode cX10_rows 0 = .ok (.iload_n 1, 1) := by decide +kernel
theorem dX10_rows_1 : decode cX10_rows 1 = .ok (.invokestatic 263, 3) := by decide +kernel
theorem dX10_rows_4 : decode cX10_rows 4 = .ok (.ifCond .eq 11, 3) := by decide +kernel
theorem dX10_rows_7 : decode cX10_rows 7 = .ok (.aload_n 0, 1) := by decide +kernel
theorem dX10_rows_8 : decode cX10_rows 8 = .ok (.iload_n 1, 1) := by decide +kernel
theorem dX10_rows_9 : decode cX10_rows 9 = .ok (.invokevirtual 266, 3) := by decide +kernel
theorem dX10_rows_12 : decode cX10_rows 12 = .ok (.goto 5, 3) := by decide +kernel
theorem dX10_rows_15 : decode cX10_rows 15 = .ok (.bipush (-2), 2) := by decide +kernel
theorem dX10_rows_17 : decode cX10_rows 17 = .ok (.ireturn, 1) := by decide +kernel
set_option maxRecDepth 20000 in
theorem ggX10_draws_X10_isTribe : GoodIn wsX10_draws wsX10_isTribe := goodIn_r _ [6, 7, 8, 9, 5, 10] (by decide +kernel) (by decide +kernel)
set_option maxRecDepth 20000 in
theorem gX10_draws_X10_isTribe : GoodIn wsX10_draws (va_wsS RX10 263 yX10_isTribe wsX10_isTribe) := goodIn_app (goodIn_of _ (by decide +kernel)) ggX10_draws_X10_isTribe
set_option maxRecDepth 20000 in
theorem ggX10_draws_X10_rowsOf : GoodIn wsX10_draws wsX10_rowsOf := goodIn_r _ [14, 15, 16, 17, 5, 18, 19, 20, 21, 22, 23, 24, 25, 26, 27, 28, 29, 30, 31, 32, 33, 34, 35, 36, 37, 38, 39, 40, 41, 42, 43, 44, 45, 46, 47, 48, 49, 50, 51, 52, 53, 54, 55, 56, 57, 58, 59, 60, 61, 62, 63, 64, 65, 66, 67, 68, 69, 70, 71, 72] (by decide +kernel) (by decide +kernel)
set_option maxRecDepth 20000 in
theorem gX10_draws_X10_rowsOf : GoodIn wsX10_draws (wsV RX10 266 RX10 yX10_rowsOf wsX10_rowsOf) := goodIn_app (goodIn_of _ (by decide +kernel)) ggX10_draws_X10_rowsOf
set_option maxRecDepth 20000 in
theorem ggX10_draws_X10_in : GoodIn wsX10_draws wsX10_in := goodIn_r _ [10] (by decide +kernel) (by decide +kernel)
set_option maxRecDepth 20000 in
theorem gX10_draws_X10_in : GoodIn wsX10_draws (va_wsS RX10 194 yX10_in wsX10_in) := goodIn_app (goodIn_of _ (by decide +kernel)) ggX10_draws_X10_in
theorem dX10_draws_0 : decode cX10_draws 0 = .ok (.iload_n 1, 1) := by decide +kernel
theorem dX10_draws_1 : decode cX10_draws 1 = .ok (.invokestatic 263, 3) := by decide +kernel
theorem dX10_draws_4 : decode cX10_draws 4 = .ok (.ifCond .eq 36, 3) := by decide +kernel
theorem dX10_draws_7 : decode cX10_draws 7 = .ok (.iload_n 2, 1) := by decide +kernel
theorem dX10_draws_8 : decode cX10_draws 8 = .ok (.i2l, 1) := by decide +kernel
theorem dX10_draws_9 : decode cX10_draws 9 = .ok (.lconst 0, 1) := by decide +kernel
theorem dX10_draws_10 : decode cX10_draws 10 = .ok (.aload_n 0, 1) := by decide +kernel
theorem dX10_draws_11 : decode cX10_draws 11 = .ok (.iload_n 1, 1) := by decide +kernel
theorem dX10_draws_12 : decode cX10_draws 12 = .ok (.invokevirtual 266, 3) := by decide +kernel
theorem dX10_draws_15 : decode cX10_draws 15 = .ok (.i2l, 1) := by decide +kernel
theorem dX10_draws_16 : decode cX10_draws 16 = .ok (.invokestatic 194, 3) := by decide +kernel
theorem dX10_draws_19 : decode cX10_draws 19 = .ok (.ifCond .eq 21, 3) := by decide +kernel
theorem dX10_draws_22 : decode cX10_draws 22 = .ok (.aload_n 0, 1) := by decide +kernel
theorem dX10_draws_23 : decode cX10_draws 23 = .ok (.getfield 61, 3) := by decide +kernel
theorem dX10_draws_26 : decode cX10_draws 26 = .ok (.bipush 32, 2) := by decide +kernel
theorem dX10_draws_28 : decode cX10_draws 28 = .ok (.aload_n 0, 1) := by decide +kernel
theorem dX10_draws_29 : decode cX10_draws 29 = .ok (.iload_n 1, 1) := by decide +kernel
theorem dX10_draws_30 : decode cX10_draws 30 = .ok (.invokevirtual 266, 3) := by decide +kernel
theorem dX10_draws_33 : decode cX10_draws 33 = .ok (.imul, 1) := by decide +kernel
theorem dX10_draws_34 : decode cX10_draws 34 = .ok (.iload_n 2, 1) := by decide +kernel
theorem dX10_draws_35 : decode cX10_draws 35 = .ok (.iadd, 1) := by decide +kernel
theorem dX10_draws_36 : decode cX10_draws 36 = .ok (.laload, 1) := by decide +kernel
theorem dX10_draws_37 : decode cX10_draws 37 = .ok (.goto 6, 3) := by decide +kernel
theorem dX10_draws_40 : decode cX10_draws 40 = .ok (.ldc2_w 269, 3) := by decide +kernel
theorem dX10_draws_43 : decode cX10_draws 43 = .ok (.lreturn, 1) := by decide +kernel
theorem dX10_at_0 : decode cX10_at 0 = .ok (.iconst 0, 1) := by decide +kernel
theorem dX10_at_1 : decode cX10_at 1 = .ok (.istore 4, 2) := by decide +kernel
theorem dX10_at_3 : decode cX10_at 3 = .ok (.iload 4, 2) := by decide +kernel
theorem dX10_at_5 : decode cX10_at 5 = .ok (.aload_n 0, 1) := by decide +kernel
theorem dX10_at_6 : decode cX10_at 6 = .ok (.getfield 231, 3) := by decide +kernel
theorem dX10_at_9 : decode cX10_at 9 = .ok (.if_icmp .ge 45, 3) := by decide +kernel
theorem dX10_at_12 : decode cX10_at 12 = .ok (.aload_n 0, 1) := by decide +kernel
theorem dX10_at_13 : decode cX10_at 13 = .ok (.getfield 28, 3) := by decide +kernel
theorem dX10_at_16 : decode cX10_at 16 = .ok (.iload 4, 2) := by decide +kernel
theorem dX10_at_18 : decode cX10_at 18 = .ok (.iaload, 1) := by decide +kernel
theorem dX10_at_19 : decode cX10_at 19 = .ok (.iload_n 1, 1) := by decide +kernel
theorem dX10_at_20 : decode cX10_at 20 = .ok (.if_icmp .ne 28, 3) := by decide +kernel
theorem dX10_at_23 : decode cX10_at 23 = .ok (.aload_n 0, 1) := by decide +kernel
theorem dX10_at_24 : decode cX10_at 24 = .ok (.getfield 31, 3) := by decide +kernel
theorem dX10_at_27 : decode cX10_at 27 = .ok (.iload 4, 2) := by decide +kernel
theorem dX10_at_29 : decode cX10_at 29 = .ok (.iaload, 1) := by decide +kernel
theorem dX10_at_30 : decode cX10_at 30 = .ok (.iload_n 2, 1) := by decide +kernel
theorem dX10_at_31 : decode cX10_at 31 = .ok (.if_icmp .ne 17, 3) := by decide +kernel
theorem dX10_at_34 : decode cX10_at 34 = .ok (.aload_n 0, 1) := by decide +kernel
theorem dX10_at_35 : decode cX10_at 35 = .ok (.getfield 46, 3) := by decide +kernel
theorem dX10_at_38 : decode cX10_at 38 = .ok (.iload 4, 2) := by decide +kernel
theorem dX10_at_40 : decode cX10_at 40 = .ok (.iaload, 1) := by decide +kernel
theorem dX10_at_41 : decode cX10_at 41 = .ok (.iload_n 3, 1) := by decide +kernel
theorem dX10_at_42 : decode cX10_at 42 = .ok (.if_icmp .ne 6, 3) := by decide +kernel
theorem dX10_at_45 : decode cX10_at 45 = .ok (.iload 4, 2) := by decide +kernel
theorem dX10_at_47 : decode cX10_at 47 = .ok (.ireturn, 1) := by decide +kernel
theorem dX10_at_48 : decode cX10_at 48 = .ok (.iinc 4 1, 3) := by decide +kernel
theorem dX10_at_51 : decode cX10_at 51 = .ok (.goto (-48), 3) := by decide +kernel
theorem dX10_at_54 : decode cX10_at 54 = .ok (.iconst (-1), 1) := by decide +kernel
theorem dX10_at_55 : decode cX10_at 55 = .ok (.ireturn, 1) := by decide +kernel
set_option maxRecDepth 20000 in
theorem ggX10_draw_X10_isTribe : GoodIn wsX10_draw wsX10_isTribe := goodIn_r _ [9, 10, 11, 12, 8, 13] (by decide +kernel) (by decide +kernel)
set_option maxRecDepth 20000 in
theorem gX10_draw_X10_isTribe : GoodIn wsX10_draw (va_wsS RX10 263 yX10_isTribe wsX10_isTribe) := goodIn_app (goodIn_of _ (by decide +kernel)) ggX10_draw_X10_isTribe
set_option maxRecDepth 20000 in
theorem ggX10_draw_X10_rowsOf : GoodIn wsX10_draw wsX10_rowsOf := goodIn_r _ [17, 18, 19, 20, 8, 21, 22, 23, 24, 25, 30, 31, 32, 33, 34, 35, 36, 37, 38, 39, 40, 41, 42, 43, 44, 45, 46, 47, 48, 49, 50, 51, 52, 53, 54, 55, 56, 57, 58, 59, 60, 61, 62, 63, 64, 65, 66, 67, 68, 69, 70, 71, 72, 73, 74, 75, 76, 77, 78, 79] (by decide +kernel) (by decide +kernel)
set_option maxRecDepth 20000 in
theorem gX10_draw_X10_rowsOf : GoodIn wsX10_draw (wsV RX10 266 RX10 yX10_rowsOf wsX10_rowsOf) := goodIn_app (goodIn_of _ (by decide +kernel)) ggX10_draw_X10_rowsOf
set_option maxRecDepth 20000 in
theorem ggX10_draw_X10_in : GoodIn wsX10_draw wsX10_in := goodIn_r _ [13] (by decide +kernel) (by decide +kernel)
set_option maxRecDepth 20000 in
theorem gX10_draw_X10_in : GoodIn wsX10_draw (va_wsS RX10 194 yX10_in wsX10_in) := goodIn_app (goodIn_of _ (by decide +kernel)) ggX10_draw_X10_in
set_option maxRecDepth 20000 in
theorem ggX10_draw_X10_at : GoodIn wsX10_draw wsX10_at := goodIn_r _ [29, 22, 23, 24, 25, 30, 31, 32, 33, 34, 35, 36, 37, 38, 39, 40, 41, 42, 43, 44, 45, 46, 47, 48, 49, 50, 51, 52, 53, 54, 55, 56, 57, 58, 59, 60, 61, 62, 63, 64, 65, 66, 67, 68, 69, 70, 71, 72, 73, 74, 75, 76, 77, 78, 79] (by decide +kernel) (by decide +kernel)
set_option maxRecDepth 20000 in
theorem gX10_draw_X10_at : GoodIn wsX10_draw (wsV RX10 271 RX10 yX10_at wsX10_at) := goodIn_app (goodIn_of _ (by decide +kernel)) ggX10_draw_X10_at
theorem dX10_draw_0 : decode cX10_draw 0 = .ok (.iload_n 1, 1) := by decide +kernel
theorem dX10_draw_1 : decode cX10_draw 1 = .ok (.invokestatic 263, 3) := by decide +kernel
theorem dX10_draw_4 : decode cX10_draw 4 = .ok (.ifCond .ne 6, 3) := by decide +kernel
theorem dX10_draw_7 : decode cX10_draw 7 = .ok (.bipush (-2), 2) := by decide +kernel
theorem dX10_draw_9 : decode cX10_draw 9 = .ok (.ireturn, 1) := by decide +kernel
theorem dX10_draw_10 : decode cX10_draw 10 = .ok (.aload_n 0, 1) := by decide +kernel
theorem dX10_draw_11 : decode cX10_draw 11 = .ok (.iload_n 1, 1) := by decide +kernel
theorem dX10_draw_12 : decode cX10_draw 12 = .ok (.invokevirtual 266, 3) := by decide +kernel
theorem dX10_draw_15 : decode cX10_draw 15 = .ok (.istore 5, 2) := by decide +kernel
theorem dX10_draw_17 : decode cX10_draw 17 = .ok (.iload_n 2, 1) := by decide +kernel
theorem dX10_draw_18 : decode cX10_draw 18 = .ok (.i2l, 1) := by decide +kernel
theorem dX10_draw_19 : decode cX10_draw 19 = .ok (.lconst 0, 1) := by decide +kernel
theorem dX10_draw_20 : decode cX10_draw 20 = .ok (.iload 5, 2) := by decide +kernel
theorem dX10_draw_22 : decode cX10_draw 22 = .ok (.i2l, 1) := by decide +kernel
theorem dX10_draw_23 : decode cX10_draw 23 = .ok (.invokestatic 194, 3) := by decide +kernel
theorem dX10_draw_26 : decode cX10_draw 26 = .ok (.ifCond .eq 25, 3) := by decide +kernel
theorem dX10_draw_29 : decode cX10_draw 29 = .ok (.lload_n 3, 1) := by decide +kernel
theorem dX10_draw_30 : decode cX10_draw 30 = .ok (.lconst 0, 1) := by decide +kernel
theorem dX10_draw_31 : decode cX10_draw 31 = .ok (.aload_n 0, 1) := by decide +kernel
theorem dX10_draw_32 : decode cX10_draw 32 = .ok (.getfield 61, 3) := by decide +kernel
theorem dX10_draw_35 : decode cX10_draw 35 = .ok (.bipush 32, 2) := by decide +kernel
theorem dX10_draw_37 : decode cX10_draw 37 = .ok (.iload 5, 2) := by decide +kernel
theorem dX10_draw_39 : decode cX10_draw 39 = .ok (.imul, 1) := by decide +kernel
theorem dX10_draw_40 : decode cX10_draw 40 = .ok (.iload_n 2, 1) := by decide +kernel
theorem dX10_draw_41 : decode cX10_draw 41 = .ok (.iadd, 1) := by decide +kernel
theorem dX10_draw_42 : decode cX10_draw 42 = .ok (.laload, 1) := by decide +kernel
theorem dX10_draw_43 : decode cX10_draw 43 = .ok (.lconst 1, 1) := by decide +kernel
theorem dX10_draw_44 : decode cX10_draw 44 = .ok (.lsub, 1) := by decide +kernel
theorem dX10_draw_45 : decode cX10_draw 45 = .ok (.invokestatic 194, 3) := by decide +kernel
theorem dX10_draw_48 : decode cX10_draw 48 = .ok (.ifCond .ne 6, 3) := by decide +kernel
theorem dX10_draw_51 : decode cX10_draw 51 = .ok (.bipush (-2), 2) := by decide +kernel
theorem dX10_draw_53 : decode cX10_draw 53 = .ok (.ireturn, 1) := by decide +kernel
theorem dX10_draw_54 : decode cX10_draw 54 = .ok (.aload_n 0, 1) := by decide +kernel
theorem dX10_draw_55 : decode cX10_draw 55 = .ok (.getfield 55, 3) := by decide +kernel
theorem dX10_draw_58 : decode cX10_draw 58 = .ok (.iload_n 1, 1) := by decide +kernel
theorem dX10_draw_59 : decode cX10_draw 59 = .ok (.baload, 1) := by decide +kernel
theorem dX10_draw_60 : decode cX10_draw 60 = .ok (.ifCond .eq 6, 3) := by decide +kernel
theorem dX10_draw_63 : decode cX10_draw 63 = .ok (.bipush (-4), 2) := by decide +kernel
theorem dX10_draw_65 : decode cX10_draw 65 = .ok (.ireturn, 1) := by decide +kernel
theorem dX10_draw_66 : decode cX10_draw 66 = .ok (.aload_n 0, 1) := by decide +kernel
theorem dX10_draw_67 : decode cX10_draw 67 = .ok (.getfield 55, 3) := by decide +kernel
theorem dX10_draw_70 : decode cX10_draw 70 = .ok (.iload_n 1, 1) := by decide +kernel
theorem dX10_draw_71 : decode cX10_draw 71 = .ok (.iconst 1, 1) := by decide +kernel
theorem dX10_draw_72 : decode cX10_draw 72 = .ok (.bastore, 1) := by decide +kernel
theorem dX10_draw_73 : decode cX10_draw 73 = .ok (.lload_n 3, 1) := by decide +kernel
theorem dX10_draw_74 : decode cX10_draw 74 = .ok (.lstore 6, 2) := by decide +kernel
theorem dX10_draw_76 : decode cX10_draw 76 = .ok (.iload_n 2, 1) := by decide +kernel
theorem dX10_draw_77 : decode cX10_draw 77 = .ok (.istore 8, 2) := by decide +kernel
theorem dX10_draw_79 : decode cX10_draw 79 = .ok (.iconst 0, 1) := by decide +kernel
theorem dX10_draw_80 : decode cX10_draw 80 = .ok (.istore 9, 2) := by decide +kernel
theorem dX10_draw_82 : decode cX10_draw 82 = .ok (.iload 9, 2) := by decide +kernel
theorem dX10_draw_84 : decode cX10_draw 84 = .ok (.iload 5, 2) := by decide +kernel
theorem dX10_draw_86 : decode cX10_draw 86 = .ok (.if_icmp .ge 112, 3) := by decide +kernel
theorem dX10_draw_89 : decode cX10_draw 89 = .ok (.iload 8, 2) := by decide +kernel
theorem dX10_draw_91 : decode cX10_draw 91 = .ok (.ifCond .le 107, 3) := by decide +kernel
theorem dX10_draw_94 : decode cX10_draw 94 = .ok (.aload_n 0, 1) := by decide +kernel
theorem dX10_draw_95 : decode cX10_draw 95 = .ok (.getfield 61, 3) := by decide +kernel
theorem dX10_draw_98 : decode cX10_draw 98 = .ok (.bipush 32, 2) := by decide +kernel
theorem dX10_draw_100 : decode cX10_draw 100 = .ok (.iload 5, 2) := by decide +kernel
theorem dX10_draw_102 : decode cX10_draw 102 = .ok (.iload 9, 2) := by decide +kernel
theorem dX10_draw_104 : decode cX10_draw 104 = .ok (.isub, 1) := by decide +kernel
theorem dX10_draw_105 : decode cX10_draw 105 = .ok (.iconst 1, 1) := by decide +kernel
theorem dX10_draw_106 : decode cX10_draw 106 = .ok (.isub, 1) := by decide +kernel
theorem dX10_draw_107 : decode cX10_draw 107 = .ok (.imul, 1) := by decide +kernel
theorem dX10_draw_108 : decode cX10_draw 108 = .ok (.iload 8, 2) := by decide +kernel
theorem dX10_draw_110 : decode cX10_draw 110 = .ok (.iadd, 1) := by decide +kernel
theorem dX10_draw_111 : decode cX10_draw 111 = .ok (.iconst 1, 1) := by decide +kernel
theorem dX10_draw_112 : decode cX10_draw 112 = .ok (.isub, 1) := by decide +kernel
theorem dX10_draw_113 : decode cX10_draw 113 = .ok (.laload, 1) := by decide +kernel
theorem dX10_draw_114 : decode cX10_draw 114 = .ok (.lstore 10, 2) := by decide +kernel
theorem dX10_draw_116 : decode cX10_draw 116 = .ok (.lload 6, 2) := by decide +kernel
theorem dX10_draw_118 : decode cX10_draw 118 = .ok (.lload 10, 2) := by decide +kernel
theorem dX10_draw_120 : decode cX10_draw 120 = .ok (.lcmp, 1) := by decide +kernel
theorem dX10_draw_121 : decode cX10_draw 121 = .ok (.ifCond .lt 13, 3) := by decide +kernel
theorem dX10_draw_124 : decode cX10_draw 124 = .ok (.lload 6, 2) := by decide +kernel
theorem dX10_draw_126 : decode cX10_draw 126 = .ok (.lload 10, 2) := by decide +kernel
theorem dX10_draw_128 : decode cX10_draw 128 = .ok (.lsub, 1) := by decide +kernel
theorem dX10_draw_129 : decode cX10_draw 129 = .ok (.lstore 6, 2) := by decide +kernel
theorem dX10_draw_131 : decode cX10_draw 131 = .ok (.goto 61, 3) := by decide +kernel
theorem dX10_draw_134 : decode cX10_draw 134 = .ok (.iinc 8 (-1), 3) := by decide +kernel
theorem dX10_draw_137 : decode cX10_draw 137 = .ok (.iconst 0, 1) := by decide +kernel
theorem dX10_draw_138 : decode cX10_draw 138 = .ok (.istore 12, 2) := by decide +kernel
theorem dX10_draw_140 : decode cX10_draw 140 = .ok (.iload 12, 2) := by decide +kernel
theorem dX10_draw_142 : decode cX10_draw 142 = .ok (.iconst 5, 1) := by decide +kernel
theorem dX10_draw_143 : decode cX10_draw 143 = .ok (.if_icmp .ge 49, 3) := by decide +kernel
theorem dX10_draw_146 : decode cX10_draw 146 = .ok (.aload_n 0, 1) := by decide +kernel
theorem dX10_draw_147 : decode cX10_draw 147 = .ok (.iload_n 1, 1) := by decide +kernel
theorem dX10_draw_148 : decode cX10_draw 148 = .ok (.iload 12, 2) := by decide +kernel
theorem dX10_draw_150 : decode cX10_draw 150 = .ok (.iload 9, 2) := by decide +kernel
theorem dX10_draw_152 : decode cX10_draw 152 = .ok (.invokevirtual 271, 3) := by decide +kernel
theorem dX10_draw_155 : decode cX10_draw 155 = .ok (.istore 13, 2) := by decide +kernel
theorem dX10_draw_157 : decode cX10_draw 157 = .ok (.aload_n 0, 1) := by decide +kernel
theorem dX10_draw_158 : decode cX10_draw 158 = .ok (.getfield 49, 3) := by decide +kernel
theorem dX10_draw_161 : decode cX10_draw 161 = .ok (.iload 13, 2) := by decide +kernel
theorem dX10_draw_163 : decode cX10_draw 163 = .ok (.iconst 1, 1) := by decide +kernel
theorem dX10_draw_164 : decode cX10_draw 164 = .ok (.bastore, 1) := by decide +kernel
theorem dX10_draw_165 : decode cX10_draw 165 = .ok (.aload_n 0, 1) := by decide +kernel
theorem dX10_draw_166 : decode cX10_draw 166 = .ok (.getfield 58, 3) := by decide +kernel
theorem dX10_draw_169 : decode cX10_draw 169 = .ok (.aload_n 0, 1) := by decide +kernel
theorem dX10_draw_170 : decode cX10_draw 170 = .ok (.getfield 254, 3) := by decide +kernel
theorem dX10_draw_173 : decode cX10_draw 173 = .ok (.iload 13, 2) := by decide +kernel
theorem dX10_draw_175 : decode cX10_draw 175 = .ok (.iastore, 1) := by decide +kernel
theorem dX10_draw_176 : decode cX10_draw 176 = .ok (.aload_n 0, 1) := by decide +kernel
theorem dX10_draw_177 : decode cX10_draw 177 = .ok (.dup, 1) := by decide +kernel
theorem dX10_draw_178 : decode cX10_draw 178 = .ok (.getfield 254, 3) := by decide +kernel
theorem dX10_draw_181 : decode cX10_draw 181 = .ok (.iconst 1, 1) := by decide +kernel
theorem dX10_draw_182 : decode cX10_draw 182 = .ok (.iadd, 1) := by decide +kernel
theorem dX10_draw_183 : decode cX10_draw 183 = .ok (.putfield 254, 3) := by decide +kernel
theorem dX10_draw_186 : decode cX10_draw 186 = .ok (.iinc 12 1, 3) := by decide +kernel
theorem dX10_draw_189 : decode cX10_draw 189 = .ok (.goto (-49), 3) := by decide +kernel
theorem dX10_draw_192 : decode cX10_draw 192 = .ok (.iinc 9 1, 3) := by decide +kernel
theorem dX10_draw_195 : decode cX10_draw 195 = .ok (.goto (-113), 3) := by decide +kernel
theorem dX10_draw_198 : decode cX10_draw 198 = .ok (.iconst 5, 1) := by decide +kernel
theorem dX10_draw_199 : decode cX10_draw 199 = .ok (.iload_n 2, 1) := by decide +kernel
theorem dX10_draw_200 : decode cX10_draw 200 = .ok (.imul, 1) := by decide +kernel
theorem dX10_draw_201 : decode cX10_draw 201 = .ok (.ireturn, 1) := by decide +kernel
set_option maxRecDepth 20000 in
theorem ggX10_chances_X10_isCitizen : GoodIn wsX10_chances wsX10_isCitizen := goodIn_r _ [10, 11, 12, 13, 9, 14, 24, 25, 26, 27, 28, 29, 30, 31, 32, 33, 34, 35, 36, 37, 38, 39, 40, 41, 42, 43, 44, 45, 46, 47, 48, 49, 50, 51, 52, 53, 54, 55, 56, 57, 58, 59, 60, 61, 62, 63, 64, 65, 66, 67, 68, 69, 70, 71, 72, 73] (by decide +kernel) (by decide +kernel)
set_option maxRecDepth 20000 in
theorem gX10_chances_X10_isCitizen : GoodIn wsX10_chances (wsV RX10 240 RX10 yX10_isCitizen wsX10_isCitizen) := goodIn_app (goodIn_of _ (by decide +kernel)) ggX10_chances_X10_isCitizen
set_option maxRecDepth 20000 in
theorem ggX10_chances_X10_rowsOf : GoodIn wsX10_chances wsX10_rowsOf := goodIn_r _ [18, 19, 20, 21, 9, 22, 11, 1, 23, 3, 24, 25, 26, 27, 28, 29, 30, 31, 32, 33, 34, 35, 36, 37, 38, 39, 40, 41, 42, 43, 44, 45, 46, 47, 48, 49, 50, 51, 52, 53, 54, 55, 56, 57, 58, 59, 60, 61, 62, 63, 64, 65, 66, 67, 68, 69, 70, 71, 72, 73] (by decide +kernel) (by decide +kernel)
set_option maxRecDepth 20000 in
theorem gX10_chances_X10_rowsOf : GoodIn wsX10_chances (wsV RX10 266 RX10 yX10_rowsOf wsX10_rowsOf) := goodIn_app (goodIn_of _ (by decide +kernel)) ggX10_chances_X10_rowsOf
set_option maxRecDepth 20000 in
theorem ggX10_chances_X10_in : GoodIn wsX10_chances wsX10_in := goodIn_r _ [14] (by decide +kernel) (by decide +kernel)
set_option maxRecDepth 20000 in
theorem gX10_chances_X10_in : GoodIn wsX10_chances (va_wsS RX10 194 yX10_in wsX10_in) := goodIn_app (goodIn_of _ (by decide +kernel)) ggX10_chances_X10_in
theorem dX10_chances_0 : decode cX10_chances 0 = .ok (.aload_n 0, 1) := by decide +kernel
theorem dX10_chances_1 : decode cX10_chances 1 = .ok (.iload_n 1, 1) := by decide +kernel
theorem dX10_chances_2 : decode cX10_chances 2 = .ok (.invokevirtual 240, 3) := by decide +kernel
theorem dX10_chances_5 : decode cX10_chances 5 = .ok (.ifCond .eq 23, 3) := by decide +kernel
theorem dX10_chances_8 : decode cX10_chances 8 = .ok (.iload_n 2, 1) := by decide +kernel
theorem dX10_chances_9 : decode cX10_chances 9 = .ok (.i2l, 1) := by decide +kernel
theorem dX10_chances_10 : decode cX10_chances 10 = .ok (.lconst 0, 1) := by decide +kernel
theorem dX10_chances_11 : decode cX10_chances 11 = .ok (.aload_n 0, 1) := by decide +kernel
