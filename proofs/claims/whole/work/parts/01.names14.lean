theorem dX10_discsOf_12 : decode cX10_discsOf 12 = .ok (.iload_n 1, 1) := by decide +kernel
theorem dX10_discsOf_13 : decode cX10_discsOf 13 = .ok (.imul, 1) := by decide +kernel
theorem dX10_discsOf_14 : decode cX10_discsOf 14 = .ok (.aload_n 0, 1) := by decide +kernel
theorem dX10_discsOf_15 : decode cX10_discsOf 15 = .ok (.getfield 71, 3) := by decide +kernel
theorem dX10_discsOf_18 : decode cX10_discsOf 18 = .ok (.iload_n 1, 1) := by decide +kernel
theorem dX10_discsOf_19 : decode cX10_discsOf 19 = .ok (.iaload, 1) := by decide +kernel
theorem dX10_discsOf_20 : decode cX10_discsOf 20 = .ok (.iadd, 1) := by decide +kernel
theorem dX10_discsOf_21 : decode cX10_discsOf 21 = .ok (.if_icmp .ge 131, 3) := by decide +kernel
theorem dX10_discsOf_24 : decode cX10_discsOf 24 = .ok (.aload_n 0, 1) := by decide +kernel
theorem dX10_discsOf_25 : decode cX10_discsOf 25 = .ok (.getfield 77, 3) := by decide +kernel
theorem dX10_discsOf_28 : decode cX10_discsOf 28 = .ok (.iload 4, 2) := by decide +kernel
theorem dX10_discsOf_30 : decode cX10_discsOf 30 = .ok (.iaload, 1) := by decide +kernel
theorem dX10_discsOf_31 : decode cX10_discsOf 31 = .ok (.iconst (-1), 1) := by decide +kernel
theorem dX10_discsOf_32 : decode cX10_discsOf 32 = .ok (.if_icmp .eq 17, 3) := by decide +kernel
theorem dX10_discsOf_35 : decode cX10_discsOf 35 = .ok (.aload_n 0, 1) := by decide +kernel
theorem dX10_discsOf_36 : decode cX10_discsOf 36 = .ok (.getfield 80, 3) := by decide +kernel
theorem dX10_discsOf_39 : decode cX10_discsOf 39 = .ok (.iload 4, 2) := by decide +kernel
theorem dX10_discsOf_41 : decode cX10_discsOf 41 = .ok (.baload, 1) := by decide +kernel
theorem dX10_discsOf_42 : decode cX10_discsOf 42 = .ok (.ifCond .ne 7, 3) := by decide +kernel
theorem dX10_discsOf_45 : decode cX10_discsOf 45 = .ok (.iconst 1, 1) := by decide +kernel
theorem dX10_discsOf_46 : decode cX10_discsOf 46 = .ok (.goto 4, 3) := by decide +kernel
theorem dX10_discsOf_49 : decode cX10_discsOf 49 = .ok (.iconst 0, 1) := by decide +kernel
theorem dX10_discsOf_50 : decode cX10_discsOf 50 = .ok (.istore 5, 2) := by decide +kernel
theorem dX10_discsOf_52 : decode cX10_discsOf 52 = .ok (.iload_n 2, 1) := by decide +kernel
theorem dX10_discsOf_53 : decode cX10_discsOf 53 = .ok (.ifCond .ne 8, 3) := by decide +kernel
theorem dX10_discsOf_56 : decode cX10_discsOf 56 = .ok (.iload 5, 2) := by decide +kernel
theorem dX10_discsOf_58 : decode cX10_discsOf 58 = .ok (.goto 73, 3) := by decide +kernel
theorem dX10_discsOf_61 : decode cX10_discsOf 61 = .ok (.iload_n 2, 1) := by decide +kernel
theorem dX10_discsOf_62 : decode cX10_discsOf 62 = .ok (.iconst 1, 1) := by decide +kernel
theorem dX10_discsOf_63 : decode cX10_discsOf 63 = .ok (.if_icmp .ne 27, 3) := by decide +kernel
theorem dX10_discsOf_66 : decode cX10_discsOf 66 = .ok (.iload 5, 2) := by decide +kernel
theorem dX10_discsOf_68 : decode cX10_discsOf 68 = .ok (.ifCond .eq 18, 3) := by decide +kernel
theorem dX10_discsOf_71 : decode cX10_discsOf 71 = .ok (.aload_n 0, 1) := by decide +kernel
theorem dX10_discsOf_72 : decode cX10_discsOf 72 = .ok (.getfield 77, 3) := by decide +kernel
theorem dX10_discsOf_75 : decode cX10_discsOf 75 = .ok (.iload 4, 2) := by decide +kernel
theorem dX10_discsOf_77 : decode cX10_discsOf 77 = .ok (.iaload, 1) := by decide +kernel
theorem dX10_discsOf_78 : decode cX10_discsOf 78 = .ok (.iconst 1, 1) := by decide +kernel
theorem dX10_discsOf_79 : decode cX10_discsOf 79 = .ok (.if_icmp .ne 7, 3) := by decide +kernel
theorem dX10_discsOf_82 : decode cX10_discsOf 82 = .ok (.iconst 1, 1) := by decide +kernel
theorem dX10_discsOf_83 : decode cX10_discsOf 83 = .ok (.goto 48, 3) := by decide +kernel
theorem dX10_discsOf_86 : decode cX10_discsOf 86 = .ok (.iconst 0, 1) := by decide +kernel
theorem dX10_discsOf_87 : decode cX10_discsOf 87 = .ok (.goto 44, 3) := by decide +kernel
theorem dX10_discsOf_90 : decode cX10_discsOf 90 = .ok (.iload_n 2, 1) := by decide +kernel
theorem dX10_discsOf_91 : decode cX10_discsOf 91 = .ok (.iconst 2, 1) := by decide +kernel
theorem dX10_discsOf_92 : decode cX10_discsOf 92 = .ok (.if_icmp .ne 32, 3) := by decide +kernel
theorem dX10_discsOf_95 : decode cX10_discsOf 95 = .ok (.aload_n 0, 1) := by decide +kernel
theorem dX10_discsOf_96 : decode cX10_discsOf 96 = .ok (.getfield 77, 3) := by decide +kernel
theorem dX10_discsOf_99 : decode cX10_discsOf 99 = .ok (.iload 4, 2) := by decide +kernel
theorem dX10_discsOf_101 : decode cX10_discsOf 101 = .ok (.iaload, 1) := by decide +kernel
theorem dX10_discsOf_102 : decode cX10_discsOf 102 = .ok (.iconst (-1), 1) := by decide +kernel
theorem dX10_discsOf_103 : decode cX10_discsOf 103 = .ok (.if_icmp .ne 17, 3) := by decide +kernel
theorem dX10_discsOf_106 : decode cX10_discsOf 106 = .ok (.aload_n 0, 1) := by decide +kernel
theorem dX10_discsOf_107 : decode cX10_discsOf 107 = .ok (.getfield 80, 3) := by decide +kernel
theorem dX10_discsOf_110 : decode cX10_discsOf 110 = .ok (.iload 4, 2) := by decide +kernel
theorem dX10_discsOf_112 : decode cX10_discsOf 112 = .ok (.baload, 1) := by decide +kernel
theorem dX10_discsOf_113 : decode cX10_discsOf 113 = .ok (.ifCond .ne 7, 3) := by decide +kernel
theorem dX10_discsOf_116 : decode cX10_discsOf 116 = .ok (.iconst 1, 1) := by decide +kernel
theorem dX10_discsOf_117 : decode cX10_discsOf 117 = .ok (.goto 14, 3) := by decide +kernel
theorem dX10_discsOf_120 : decode cX10_discsOf 120 = .ok (.iconst 0, 1) := by decide +kernel
theorem dX10_discsOf_121 : decode cX10_discsOf 121 = .ok (.goto 10, 3) := by decide +kernel
theorem dX10_discsOf_124 : decode cX10_discsOf 124 = .ok (.aload_n 0, 1) := by decide +kernel
theorem dX10_discsOf_125 : decode cX10_discsOf 125 = .ok (.getfield 80, 3) := by decide +kernel
theorem dX10_discsOf_128 : decode cX10_discsOf 128 = .ok (.iload 4, 2) := by decide +kernel
theorem dX10_discsOf_130 : decode cX10_discsOf 130 = .ok (.baload, 1) := by decide +kernel
theorem dX10_discsOf_131 : decode cX10_discsOf 131 = .ok (.istore 6, 2) := by decide +kernel
theorem dX10_discsOf_133 : decode cX10_discsOf 133 = .ok (.iload_n 3, 1) := by decide +kernel
theorem dX10_discsOf_134 : decode cX10_discsOf 134 = .ok (.iload 6, 2) := by decide +kernel
theorem dX10_discsOf_136 : decode cX10_discsOf 136 = .ok (.ifCond .eq 7, 3) := by decide +kernel
theorem dX10_discsOf_139 : decode cX10_discsOf 139 = .ok (.iconst 1, 1) := by decide +kernel
theorem dX10_discsOf_140 : decode cX10_discsOf 140 = .ok (.goto 4, 3) := by decide +kernel
theorem dX10_discsOf_143 : decode cX10_discsOf 143 = .ok (.iconst 0, 1) := by decide +kernel
theorem dX10_discsOf_144 : decode cX10_discsOf 144 = .ok (.iadd, 1) := by decide +kernel
theorem dX10_discsOf_145 : decode cX10_discsOf 145 = .ok (.istore_n 3, 1) := by decide +kernel
theorem dX10_discsOf_146 : decode cX10_discsOf 146 = .ok (.iinc 4 1, 3) := by decide +kernel
theorem dX10_discsOf_149 : decode cX10_discsOf 149 = .ok (.goto (-141), 3) := by decide +kernel
theorem dX10_discsOf_152 : decode cX10_discsOf 152 = .ok (.iload_n 3, 1) := by decide +kernel
theorem dX10_discsOf_153 : decode cX10_discsOf 153 = .ok (.ireturn, 1) := by decide +kernel
set_option maxRecDepth 20000 in
theorem ggX10_disc_X10_isCourt : GoodIn wsX10_disc wsX10_isCourt := goodIn_r _ [8, 9, 10, 11, 7, 12] (by decide +kernel) (by decide +kernel)
set_option maxRecDepth 20000 in
theorem gX10_disc_X10_isCourt : GoodIn wsX10_disc (va_wsS RX10 276 yX10_isCourt wsX10_isCourt) := goodIn_app (goodIn_of _ (by decide +kernel)) ggX10_disc_X10_isCourt
set_option maxRecDepth 20000 in
theorem ggX10_disc_X10_in : GoodIn wsX10_disc wsX10_in := goodIn_r _ [12] (by decide +kernel) (by decide +kernel)
set_option maxRecDepth 20000 in
theorem gX10_disc_X10_in : GoodIn wsX10_disc (va_wsS RX10 194 yX10_in wsX10_in) := goodIn_app (goodIn_of _ (by decide +kernel)) ggX10_disc_X10_in
set_option maxRecDepth 20000 in
theorem ggX10_disc_X10_seatOf : GoodIn wsX10_disc wsX10_seatOf := goodIn_r _ [16, 17, 18, 23, 24, 25, 26, 27, 28, 29, 30, 31, 32, 33, 34, 35, 36, 37, 38, 39, 40, 41, 42, 43, 44, 45, 46, 47, 48, 49, 50, 51, 52, 53, 54, 55, 56, 57, 58, 59, 60, 61, 62, 63, 64, 65, 66, 67, 68, 69, 70, 71, 72] (by decide +kernel) (by decide +kernel)
set_option maxRecDepth 20000 in
theorem gX10_disc_X10_seatOf : GoodIn wsX10_disc (wsV RX10 283 RX10 yX10_seatOf wsX10_seatOf) := goodIn_app (goodIn_of _ (by decide +kernel)) ggX10_disc_X10_seatOf
set_option maxRecDepth 20000 in
theorem ggX10_disc_X10_discsOf : GoodIn wsX10_disc wsX10_discsOf := goodIn_r _ [22, 17, 2, 3, 23, 24, 25, 26, 27, 28, 29, 30, 31, 32, 33, 34, 35, 36, 37, 38, 39, 40, 41, 42, 43, 44, 45, 46, 47, 48, 49, 50, 51, 52, 53, 54, 55, 56, 57, 58, 59, 60, 61, 62, 63, 64, 65, 66, 67, 68, 69, 70, 71, 72] (by decide +kernel) (by decide +kernel)
set_option maxRecDepth 20000 in
theorem gX10_disc_X10_discsOf : GoodIn wsX10_disc (wsV RX10 291 RX10 yX10_discsOf wsX10_discsOf) := goodIn_app (goodIn_of _ (by decide +kernel)) ggX10_disc_X10_discsOf
theorem dX10_disc_0 : decode cX10_disc 0 = .ok (.iload_n 1, 1) := by decide +kernel
theorem dX10_disc_1 : decode cX10_disc 1 = .ok (.invokestatic 276, 3) := by decide +kernel
theorem dX10_disc_4 : decode cX10_disc 4 = .ok (.ifCond .eq 13, 3) := by decide +kernel
theorem dX10_disc_7 : decode cX10_disc 7 = .ok (.iload_n 3, 1) := by decide +kernel
theorem dX10_disc_8 : decode cX10_disc 8 = .ok (.i2l, 1) := by decide +kernel
theorem dX10_disc_9 : decode cX10_disc 9 = .ok (.lconst 0, 1) := by decide +kernel
theorem dX10_disc_10 : decode cX10_disc 10 = .ok (.lconst 1, 1) := by decide +kernel
theorem dX10_disc_11 : decode cX10_disc 11 = .ok (.invokestatic 194, 3) := by decide +kernel
theorem dX10_disc_14 : decode cX10_disc 14 = .ok (.ifCond .ne 6, 3) := by decide +kernel
theorem dX10_disc_17 : decode cX10_disc 17 = .ok (.bipush (-2), 2) := by decide +kernel
theorem dX10_disc_19 : decode cX10_disc 19 = .ok (.ireturn, 1) := by decide +kernel
theorem dX10_disc_20 : decode cX10_disc 20 = .ok (.aload_n 0, 1) := by decide +kernel
theorem dX10_disc_21 : decode cX10_disc 21 = .ok (.getfield 83, 3) := by decide +kernel
theorem dX10_disc_24 : decode cX10_disc 24 = .ok (.iload_n 1, 1) := by decide +kernel
theorem dX10_disc_25 : decode cX10_disc 25 = .ok (.baload, 1) := by decide +kernel
theorem dX10_disc_26 : decode cX10_disc 26 = .ok (.ifCond .eq 12, 3) := by decide +kernel
theorem dX10_disc_29 : decode cX10_disc 29 = .ok (.aload_n 0, 1) := by decide +kernel
theorem dX10_disc_30 : decode cX10_disc 30 = .ok (.iload_n 1, 1) := by decide +kernel
theorem dX10_disc_31 : decode cX10_disc 31 = .ok (.iload_n 2, 1) := by decide +kernel
theorem dX10_disc_32 : decode cX10_disc 32 = .ok (.invokevirtual 283, 3) := by decide +kernel
theorem dX10_disc_35 : decode cX10_disc 35 = .ok (.goto 4, 3) := by decide +kernel
theorem dX10_disc_38 : decode cX10_disc 38 = .ok (.iconst (-1), 1) := by decide +kernel
theorem dX10_disc_39 : decode cX10_disc 39 = .ok (.istore 4, 2) := by decide +kernel
theorem dX10_disc_41 : decode cX10_disc 41 = .ok (.iload 4, 2) := by decide +kernel
theorem dX10_disc_43 : decode cX10_disc 43 = .ok (.iconst (-1), 1) := by decide +kernel
theorem dX10_disc_44 : decode cX10_disc 44 = .ok (.if_icmp .eq 43, 3) := by decide +kernel
theorem dX10_disc_47 : decode cX10_disc 47 = .ok (.aload_n 0, 1) := by decide +kernel
theorem dX10_disc_48 : decode cX10_disc 48 = .ok (.getfield 77, 3) := by decide +kernel
theorem dX10_disc_51 : decode cX10_disc 51 = .ok (.bipush 25, 2) := by decide +kernel
theorem dX10_disc_53 : decode cX10_disc 53 = .ok (.iload_n 1, 1) := by decide +kernel
theorem dX10_disc_54 : decode cX10_disc 54 = .ok (.imul, 1) := by decide +kernel
theorem dX10_disc_55 : decode cX10_disc 55 = .ok (.iload 4, 2) := by decide +kernel
theorem dX10_disc_57 : decode cX10_disc 57 = .ok (.iadd, 1) := by decide +kernel
theorem dX10_disc_58 : decode cX10_disc 58 = .ok (.iaload, 1) := by decide +kernel
theorem dX10_disc_59 : decode cX10_disc 59 = .ok (.iconst (-1), 1) := by decide +kernel
theorem dX10_disc_60 : decode cX10_disc 60 = .ok (.if_icmp .ne 27, 3) := by decide +kernel
theorem dX10_disc_63 : decode cX10_disc 63 = .ok (.aload_n 0, 1) := by decide +kernel
theorem dX10_disc_64 : decode cX10_disc 64 = .ok (.getfield 80, 3) := by decide +kernel
theorem dX10_disc_67 : decode cX10_disc 67 = .ok (.bipush 25, 2) := by decide +kernel
theorem dX10_disc_69 : decode cX10_disc 69 = .ok (.iload_n 1, 1) := by decide +kernel
theorem dX10_disc_70 : decode cX10_disc 70 = .ok (.imul, 1) := by decide +kernel
theorem dX10_disc_71 : decode cX10_disc 71 = .ok (.iload 4, 2) := by decide +kernel
theorem dX10_disc_73 : decode cX10_disc 73 = .ok (.iadd, 1) := by decide +kernel
theorem dX10_disc_74 : decode cX10_disc 74 = .ok (.baload, 1) := by decide +kernel
theorem dX10_disc_75 : decode cX10_disc 75 = .ok (.ifCond .ne 12, 3) := by decide +kernel
theorem dX10_disc_78 : decode cX10_disc 78 = .ok (.aload_n 0, 1) := by decide +kernel
theorem dX10_disc_79 : decode cX10_disc 79 = .ok (.getfield 107, 3) := by decide +kernel
theorem dX10_disc_82 : decode cX10_disc 82 = .ok (.iload_n 1, 1) := by decide +kernel
theorem dX10_disc_83 : decode cX10_disc 83 = .ok (.baload, 1) := by decide +kernel
theorem dX10_disc_84 : decode cX10_disc 84 = .ok (.ifCond .eq 6, 3) := by decide +kernel
theorem dX10_disc_87 : decode cX10_disc 87 = .ok (.bipush (-4), 2) := by decide +kernel
theorem dX10_disc_89 : decode cX10_disc 89 = .ok (.ireturn, 1) := by decide +kernel
theorem dX10_disc_90 : decode cX10_disc 90 = .ok (.aload_n 0, 1) := by decide +kernel
theorem dX10_disc_91 : decode cX10_disc 91 = .ok (.getfield 77, 3) := by decide +kernel
theorem dX10_disc_94 : decode cX10_disc 94 = .ok (.bipush 25, 2) := by decide +kernel
theorem dX10_disc_96 : decode cX10_disc 96 = .ok (.iload_n 1, 1) := by decide +kernel
theorem dX10_disc_97 : decode cX10_disc 97 = .ok (.imul, 1) := by decide +kernel
theorem dX10_disc_98 : decode cX10_disc 98 = .ok (.iload 4, 2) := by decide +kernel
theorem dX10_disc_100 : decode cX10_disc 100 = .ok (.iadd, 1) := by decide +kernel
theorem dX10_disc_101 : decode cX10_disc 101 = .ok (.iload_n 3, 1) := by decide +kernel
theorem dX10_disc_102 : decode cX10_disc 102 = .ok (.iastore, 1) := by decide +kernel
theorem dX10_disc_103 : decode cX10_disc 103 = .ok (.aload_n 0, 1) := by decide +kernel
theorem dX10_disc_104 : decode cX10_disc 104 = .ok (.iload_n 1, 1) := by decide +kernel
theorem dX10_disc_105 : decode cX10_disc 105 = .ok (.iconst 2, 1) := by decide +kernel
theorem dX10_disc_106 : decode cX10_disc 106 = .ok (.invokevirtual 291, 3) := by decide +kernel
theorem dX10_disc_109 : decode cX10_disc 109 = .ok (.ireturn, 1) := by decide +kernel
set_option maxRecDepth 20000 in
theorem ggX10_close_X10_isCourt : GoodIn wsX10_close wsX10_isCourt := goodIn_r _ [22, 23, 24, 25, 21, 26] (by decide +kernel) (by decide +kernel)
set_option maxRecDepth 20000 in
theorem gX10_close_X10_isCourt : GoodIn wsX10_close (va_wsS RX10 276 yX10_isCourt wsX10_isCourt) := goodIn_app (goodIn_of _ (by decide +kernel)) ggX10_close_X10_isCourt
set_option maxRecDepth 20000 in
theorem ggX10_close_X10_discsOf : GoodIn wsX10_close wsX10_discsOf := goodIn_r _ [30, 12, 13, 14, 49, 50, 51, 52, 53, 54, 55, 56, 57, 58, 59, 60, 61, 62, 63, 64, 65, 66, 67, 68, 69, 70, 71, 72, 73, 74, 75, 76, 77, 78, 79, 80, 81, 82, 83, 84, 85, 86, 87, 88, 89, 90, 91, 92, 93, 94, 95, 96, 97, 98] (by decide +kernel) (by decide +kernel)
set_option maxRecDepth 20000 in
theorem gX10_close_X10_discsOf : GoodIn wsX10_close (wsV RX10 291 RX10 yX10_discsOf wsX10_discsOf) := goodIn_app (goodIn_of _ (by decide +kernel)) ggX10_close_X10_discsOf
set_option maxRecDepth 20000 in
theorem ggX10_close_X10_lawOf : GoodIn wsX10_close wsX10_lawOf := goodIn_r _ [34, 35, 36, 37, 38, 21, 39, 40, 41, 42, 43, 44, 49, 50, 51, 52, 53, 54, 55, 56, 57, 58, 59, 60, 61, 62, 63, 64, 65, 66, 67, 68, 69, 70, 71, 72, 73, 74, 75, 76, 77, 78, 79, 80, 81, 82, 83, 84, 85, 86, 87, 88, 89, 90, 91, 92, 93, 94, 95, 96, 97, 98] (by decide +kernel) (by decide +kernel)
set_option maxRecDepth 20000 in
theorem gX10_close_X10_lawOf : GoodIn wsX10_close (wsV RX10 212 RX10 yX10_lawOf wsX10_lawOf) := goodIn_app (goodIn_of _ (by decide +kernel)) ggX10_close_X10_lawOf
set_option maxRecDepth 20000 in
theorem ggX10_close_X10_lay : GoodIn wsX10_close wsX10_lay := goodIn_r _ [48, 7, 1, 12, 16, 14, 49, 50, 51, 52, 53, 54, 55, 56, 57, 58, 59, 60, 61, 62, 63, 64, 65, 66, 67, 68, 69, 70, 71, 72, 73, 74, 75, 76, 77, 78, 79, 80, 81, 82, 83, 84, 85, 86, 87, 88, 89, 90, 91, 92, 93, 94, 95, 96, 97, 98] (by decide +kernel) (by decide +kernel)
set_option maxRecDepth 20000 in
theorem gX10_close_X10_lay : GoodIn wsX10_close (wsV RX10 247 RX10 yX10_lay wsX10_lay) := goodIn_app (goodIn_of _ (by decide +kernel)) ggX10_close_X10_lay
theorem dX10_close_0 : decode cX10_close 0 = .ok (.iload_n 1, 1) := by decide +kernel
theorem dX10_close_1 : decode cX10_close 1 = .ok (.invokestatic 276, 3) := by decide +kernel
theorem dX10_close_4 : decode cX10_close 4 = .ok (.ifCond .ne 6, 3) := by decide +kernel
theorem dX10_close_7 : decode cX10_close 7 = .ok (.bipush (-2), 2) := by decide +kernel
theorem dX10_close_9 : decode cX10_close 9 = .ok (.ireturn, 1) := by decide +kernel
theorem dX10_close_10 : decode cX10_close 10 = .ok (.aload_n 0, 1) := by decide +kernel
theorem dX10_close_11 : decode cX10_close 11 = .ok (.getfield 83, 3) := by decide +kernel
theorem dX10_close_14 : decode cX10_close 14 = .ok (.iload_n 1, 1) := by decide +kernel
theorem dX10_close_15 : decode cX10_close 15 = .ok (.baload, 1) := by decide +kernel
theorem dX10_close_16 : decode cX10_close 16 = .ok (.ifCond .eq 12, 3) := by decide +kernel
theorem dX10_close_19 : decode cX10_close 19 = .ok (.aload_n 0, 1) := by decide +kernel
theorem dX10_close_20 : decode cX10_close 20 = .ok (.iload_n 1, 1) := by decide +kernel
theorem dX10_close_21 : decode cX10_close 21 = .ok (.iconst 2, 1) := by decide +kernel
theorem dX10_close_22 : decode cX10_close 22 = .ok (.invokevirtual 291, 3) := by decide +kernel
theorem dX10_close_25 : decode cX10_close 25 = .ok (.ifCond .le 6, 3) := by decide +kernel
theorem dX10_close_28 : decode cX10_close 28 = .ok (.bipush (-4), 2) := by decide +kernel
theorem dX10_close_30 : decode cX10_close 30 = .ok (.ireturn, 1) := by decide +kernel
theorem dX10_close_31 : decode cX10_close 31 = .ok (.aload_n 0, 1) := by decide +kernel
theorem dX10_close_32 : decode cX10_close 32 = .ok (.iload_n 1, 1) := by decide +kernel
theorem dX10_close_33 : decode cX10_close 33 = .ok (.iconst 0, 1) := by decide +kernel
theorem dX10_close_34 : decode cX10_close 34 = .ok (.invokevirtual 291, 3) := by decide +kernel
theorem dX10_close_37 : decode cX10_close 37 = .ok (.istore_n 2, 1) := by decide +kernel
theorem dX10_close_38 : decode cX10_close 38 = .ok (.aload_n 0, 1) := by decide +kernel
theorem dX10_close_39 : decode cX10_close 39 = .ok (.iload_n 1, 1) := by decide +kernel
theorem dX10_close_40 : decode cX10_close 40 = .ok (.iconst 1, 1) := by decide +kernel
theorem dX10_close_41 : decode cX10_close 41 = .ok (.invokevirtual 291, 3) := by decide +kernel
theorem dX10_close_44 : decode cX10_close 44 = .ok (.istore_n 3, 1) := by decide +kernel
theorem dX10_close_45 : decode cX10_close 45 = .ok (.iconst 2, 1) := by decide +kernel
theorem dX10_close_46 : decode cX10_close 46 = .ok (.iload_n 3, 1) := by decide +kernel
theorem dX10_close_47 : decode cX10_close 47 = .ok (.imul, 1) := by decide +kernel
theorem dX10_close_48 : decode cX10_close 48 = .ok (.iload_n 2, 1) := by decide +kernel
theorem dX10_close_49 : decode cX10_close 49 = .ok (.if_icmp .gt 23, 3) := by decide +kernel
theorem dX10_close_52 : decode cX10_close 52 = .ok (.iconst 2, 1) := by decide +kernel
theorem dX10_close_53 : decode cX10_close 53 = .ok (.iload_n 3, 1) := by decide +kernel
theorem dX10_close_54 : decode cX10_close 54 = .ok (.imul, 1) := by decide +kernel
theorem dX10_close_55 : decode cX10_close 55 = .ok (.iload_n 2, 1) := by decide +kernel
theorem dX10_close_56 : decode cX10_close 56 = .ok (.if_icmp .ne 20, 3) := by decide +kernel
theorem dX10_close_59 : decode cX10_close 59 = .ok (.aload_n 0, 1) := by decide +kernel
theorem dX10_close_60 : decode cX10_close 60 = .ok (.aload_n 0, 1) := by decide +kernel
theorem dX10_close_61 : decode cX10_close 61 = .ok (.getfield 189, 3) := by decide +kernel
theorem dX10_close_64 : decode cX10_close 64 = .ok (.iconst 3, 1) := by decide +kernel
theorem dX10_close_65 : decode cX10_close 65 = .ok (.invokevirtual 212, 3) := by decide +kernel
theorem dX10_close_68 : decode cX10_close 68 = .ok (.iconst 1, 1) := by decide +kernel
theorem dX10_close_69 : decode cX10_close 69 = .ok (.if_icmp .ne 7, 3) := by decide +kernel
theorem dX10_close_72 : decode cX10_close 72 = .ok (.iconst 1, 1) := by decide +kernel
theorem dX10_close_73 : decode cX10_close 73 = .ok (.goto 4, 3) := by decide +kernel
theorem dX10_close_76 : decode cX10_close 76 = .ok (.iconst 0, 1) := by decide +kernel
theorem dX10_close_77 : decode cX10_close 77 = .ok (.istore 4, 2) := by decide +kernel
theorem dX10_close_79 : decode cX10_close 79 = .ok (.iconst (-1), 1) := by decide +kernel
theorem dX10_close_80 : decode cX10_close 80 = .ok (.istore 5, 2) := by decide +kernel
theorem dX10_close_82 : decode cX10_close 82 = .ok (.iconst 0, 1) := by decide +kernel
theorem dX10_close_83 : decode cX10_close 83 = .ok (.istore 6, 2) := by decide +kernel
theorem dX10_close_85 : decode cX10_close 85 = .ok (.iload 4, 2) := by decide +kernel
theorem dX10_close_87 : decode cX10_close 87 = .ok (.ifCond .eq 40, 3) := by decide +kernel
theorem dX10_close_90 : decode cX10_close 90 = .ok (.aload_n 0, 1) := by decide +kernel
theorem dX10_close_91 : decode cX10_close 91 = .ok (.getfield 95, 3) := by decide +kernel
theorem dX10_close_94 : decode cX10_close 94 = .ok (.iload_n 1, 1) := by decide +kernel
theorem dX10_close_95 : decode cX10_close 95 = .ok (.iaload, 1) := by decide +kernel
theorem dX10_close_96 : decode cX10_close 96 = .ok (.istore 5, 2) := by decide +kernel
theorem dX10_close_98 : decode cX10_close 98 = .ok (.aload_n 0, 1) := by decide +kernel
theorem dX10_close_99 : decode cX10_close 99 = .ok (.aload_n 0, 1) := by decide +kernel
theorem dX10_close_100 : decode cX10_close 100 = .ok (.getfield 189, 3) := by decide +kernel
theorem dX10_close_103 : decode cX10_close 103 = .ok (.bipush 22, 2) := by decide +kernel
theorem dX10_close_105 : decode cX10_close 105 = .ok (.aload_n 0, 1) := by decide +kernel
theorem dX10_close_106 : decode cX10_close 106 = .ok (.getfield 89, 3) := by decide +kernel
theorem dX10_close_109 : decode cX10_close 109 = .ok (.iload_n 1, 1) := by decide +kernel
theorem dX10_close_110 : decode cX10_close 110 = .ok (.iaload, 1) := by decide +kernel
theorem dX10_close_111 : decode cX10_close 111 = .ok (.iadd, 1) := by decide +kernel
theorem dX10_close_112 : decode cX10_close 112 = .ok (.invokevirtual 212, 3) := by decide +kernel
theorem dX10_close_115 : decode cX10_close 115 = .ok (.aload_n 0, 1) := by decide +kernel
theorem dX10_close_116 : decode cX10_close 116 = .ok (.getfield 98, 3) := by decide +kernel
theorem dX10_close_119 : decode cX10_close 119 = .ok (.iload_n 1, 1) := by decide +kernel
theorem dX10_close_120 : decode cX10_close 120 = .ok (.iaload, 1) := by decide +kernel
theorem dX10_close_121 : decode cX10_close 121 = .ok (.iadd, 1) := by decide +kernel
theorem dX10_close_122 : decode cX10_close 122 = .ok (.istore 6, 2) := by decide +kernel
theorem dX10_close_124 : decode cX10_close 124 = .ok (.goto 29, 3) := by decide +kernel
theorem dX10_close_127 : decode cX10_close 127 = .ok (.iconst 5, 1) := by decide +kernel
theorem dX10_close_128 : decode cX10_close 128 = .ok (.iload_n 3, 1) := by decide +kernel
theorem dX10_close_129 : decode cX10_close 129 = .ok (.imul, 1) := by decide +kernel
theorem dX10_close_130 : decode cX10_close 130 = .ok (.iload_n 2, 1) := by decide +kernel
theorem dX10_close_131 : decode cX10_close 131 = .ok (.if_icmp .ge 22, 3) := by decide +kernel
theorem dX10_close_134 : decode cX10_close 134 = .ok (.aload_n 0, 1) := by decide +kernel
theorem dX10_close_135 : decode cX10_close 135 = .ok (.getfield 92, 3) := by decide +kernel
theorem dX10_close_138 : decode cX10_close 138 = .ok (.iload_n 1, 1) := by decide +kernel
theorem dX10_close_139 : decode cX10_close 139 = .ok (.iaload, 1) := by decide +kernel
theorem dX10_close_140 : decode cX10_close 140 = .ok (.istore 5, 2) := by decide +kernel
theorem dX10_close_142 : decode cX10_close 142 = .ok (.aload_n 0, 1) := by decide +kernel
theorem dX10_close_143 : decode cX10_close 143 = .ok (.aload_n 0, 1) := by decide +kernel
theorem dX10_close_144 : decode cX10_close 144 = .ok (.getfield 189, 3) := by decide +kernel
theorem dX10_close_147 : decode cX10_close 147 = .ok (.iconst 2, 1) := by decide +kernel
theorem dX10_close_148 : decode cX10_close 148 = .ok (.invokevirtual 212, 3) := by decide +kernel
theorem dX10_close_151 : decode cX10_close 151 = .ok (.istore 6, 2) := by decide +kernel
theorem dX10_close_153 : decode cX10_close 153 = .ok (.iload 6, 2) := by decide +kernel
theorem dX10_close_155 : decode cX10_close 155 = .ok (.ifCond .ne 6, 3) := by decide +kernel
theorem dX10_close_158 : decode cX10_close 158 = .ok (.iconst (-1), 1) := by decide +kernel
theorem dX10_close_159 : decode cX10_close 159 = .ok (.istore 5, 2) := by decide +kernel
theorem dX10_close_161 : decode cX10_close 161 = .ok (.iload 5, 2) := by decide +kernel
theorem dX10_close_163 : decode cX10_close 163 = .ok (.iconst (-1), 1) := by decide +kernel
theorem dX10_close_164 : decode cX10_close 164 = .ok (.if_icmp .eq 25, 3) := by decide +kernel
theorem dX10_close_167 : decode cX10_close 167 = .ok (.aload_n 0, 1) := by decide +kernel
theorem dX10_close_168 : decode cX10_close 168 = .ok (.getfield 40, 3) := by decide +kernel
theorem dX10_close_171 : decode cX10_close 171 = .ok (.iload 5, 2) := by decide +kernel
theorem dX10_close_173 : decode cX10_close 173 = .ok (.iaload, 1) := by decide +kernel
theorem dX10_close_174 : decode cX10_close 174 = .ok (.i2l, 1) := by decide +kernel
theorem dX10_close_175 : decode cX10_close 175 = .ok (.iload 6, 2) := by decide +kernel
theorem dX10_close_177 : decode cX10_close 177 = .ok (.i2l, 1) := by decide +kernel
theorem dX10_close_178 : decode cX10_close 178 = .ok (.ladd, 1) := by decide +kernel
theorem dX10_close_179 : decode cX10_close 179 = .ok (.ldc2_w 245, 3) := by decide +kernel
theorem dX10_close_182 : decode cX10_close 182 = .ok (.lcmp, 1) := by decide +kernel
theorem dX10_close_183 : decode cX10_close 183 = .ok (.ifCond .le 6, 3) := by decide +kernel
theorem dX10_close_186 : decode cX10_close 186 = .ok (.bipush (-3), 2) := by decide +kernel
theorem dX10_close_188 : decode cX10_close 188 = .ok (.ireturn, 1) := by decide +kernel
theorem dX10_close_189 : decode cX10_close 189 = .ok (.aload_n 0, 1) := by decide +kernel
theorem dX10_close_190 : decode cX10_close 190 = .ok (.getfield 83, 3) := by decide +kernel
theorem dX10_close_193 : decode cX10_close 193 = .ok (.iload_n 1, 1) := by decide +kernel
theorem dX10_close_194 : decode cX10_close 194 = .ok (.iconst 0, 1) := by decide +kernel
theorem dX10_close_195 : decode cX10_close 195 = .ok (.bastore, 1) := by decide +kernel
theorem dX10_close_196 : decode cX10_close 196 = .ok (.aload_n 0, 1) := by decide +kernel
theorem dX10_close_197 : decode cX10_close 197 = .ok (.getfield 110, 3) := by decide +kernel
theorem dX10_close_200 : decode cX10_close 200 = .ok (.iload_n 1, 1) := by decide +kernel
theorem dX10_close_201 : decode cX10_close 201 = .ok (.iload 4, 2) := by decide +kernel
theorem dX10_close_203 : decode cX10_close 203 = .ok (.ifCond .eq 7, 3) := by decide +kernel
theorem dX10_close_206 : decode cX10_close 206 = .ok (.iconst 1, 1) := by decide +kernel
theorem dX10_close_207 : decode cX10_close 207 = .ok (.goto 4, 3) := by decide +kernel
theorem dX10_close_210 : decode cX10_close 210 = .ok (.iconst 0, 1) := by decide +kernel
theorem dX10_close_211 : decode cX10_close 211 = .ok (.iastore, 1) := by decide +kernel
theorem dX10_close_212 : decode cX10_close 212 = .ok (.aload_n 0, 1) := by decide +kernel
theorem dX10_close_213 : decode cX10_close 213 = .ok (.getfield 113, 3) := by decide +kernel
theorem dX10_close_216 : decode cX10_close 216 = .ok (.iload_n 1, 1) := by decide +kernel
theorem dX10_close_217 : decode cX10_close 217 = .ok (.iload 5, 2) := by decide +kernel
theorem dX10_close_219 : decode cX10_close 219 = .ok (.iastore, 1) := by decide +kernel
theorem dX10_close_220 : decode cX10_close 220 = .ok (.aload_n 0, 1) := by decide +kernel
theorem dX10_close_221 : decode cX10_close 221 = .ok (.getfield 116, 3) := by decide +kernel
theorem dX10_close_224 : decode cX10_close 224 = .ok (.iload_n 1, 1) := by decide +kernel
theorem dX10_close_225 : decode cX10_close 225 = .ok (.iload 6, 2) := by decide +kernel
theorem dX10_close_227 : decode cX10_close 227 = .ok (.iastore, 1) := by decide +kernel
theorem dX10_close_228 : decode cX10_close 228 = .ok (.iload 5, 2) := by decide +kernel
theorem dX10_close_230 : decode cX10_close 230 = .ok (.iconst (-1), 1) := by decide +kernel
theorem dX10_close_231 : decode cX10_close 231 = .ok (.if_icmp .eq 11, 3) := by decide +kernel
theorem dX10_close_234 : decode cX10_close 234 = .ok (.aload_n 0, 1) := by decide +kernel
theorem dX10_close_235 : decode cX10_close 235 = .ok (.iload 5, 2) := by decide +kernel
theorem dX10_close_237 : decode cX10_close 237 = .ok (.iload 6, 2) := by decide +kernel
theorem dX10_close_239 : decode cX10_close 239 = .ok (.invokevirtual 247, 3) := by decide +kernel
theorem dX10_close_242 : decode cX10_close 242 = .ok (.aload_n 0, 1) := by decide +kernel
theorem dX10_close_243 : decode cX10_close 243 = .ok (.aload_n 0, 1) := by decide +kernel
theorem dX10_close_244 : decode cX10_close 244 = .ok (.getfield 189, 3) := by decide +kernel
theorem dX10_close_247 : decode cX10_close 247 = .ok (.iconst 1, 1) := by decide +kernel
theorem dX10_close_248 : decode cX10_close 248 = .ok (.invokevirtual 212, 3) := by decide +kernel
theorem dX10_close_251 : decode cX10_close 251 = .ok (.istore 7, 2) := by decide +kernel
theorem dX10_close_253 : decode cX10_close 253 = .ok (.bipush 25, 2) := by decide +kernel
theorem dX10_close_255 : decode cX10_close 255 = .ok (.iload_n 1, 1) := by decide +kernel
theorem dX10_close_256 : decode cX10_close 256 = .ok (.imul, 1) := by decide +kernel
theorem dX10_close_257 : decode cX10_close 257 = .ok (.istore 8, 2) := by decide +kernel
theorem dX10_close_259 : decode cX10_close 259 = .ok (.iload 8, 2) := by decide +kernel
theorem dX10_close_261 : decode cX10_close 261 = .ok (.bipush 25, 2) := by decide +kernel
theorem dX10_close_263 : decode cX10_close 263 = .ok (.iload_n 1, 1) := by decide +kernel
theorem dX10_close_264 : decode cX10_close 264 = .ok (.imul, 1) := by decide +kernel
theorem dX10_close_265 : decode cX10_close 265 = .ok (.aload_n 0, 1) := by decide +kernel
theorem dX10_close_266 : decode cX10_close 266 = .ok (.getfield 71, 3) := by decide +kernel
theorem dX10_close_269 : decode cX10_close 269 = .ok (.iload_n 1, 1) := by decide +kernel
theorem dX10_close_270 : decode cX10_close 270 = .ok (.iaload, 1) := by decide +kernel
theorem dX10_close_271 : decode cX10_close 271 = .ok (.iadd, 1) := by decide +kernel
theorem dX10_close_272 : decode cX10_close 272 = .ok (.if_icmp .ge 61, 3) := by decide +kernel
theorem dX10_close_275 : decode cX10_close 275 = .ok (.aload_n 0, 1) := by decide +kernel
theorem dX10_close_276 : decode cX10_close 276 = .ok (.getfield 77, 3) := by decide +kernel
theorem dX10_close_279 : decode cX10_close 279 = .ok (.iload 8, 2) := by decide +kernel
theorem dX10_close_281 : decode cX10_close 281 = .ok (.iaload, 1) := by decide +kernel
theorem dX10_close_282 : decode cX10_close 282 = .ok (.iconst (-1), 1) := by decide +kernel
theorem dX10_close_283 : decode cX10_close 283 = .ok (.if_icmp .eq 44, 3) := by decide +kernel
theorem dX10_close_286 : decode cX10_close 286 = .ok (.aload_n 0, 1) := by decide +kernel
theorem dX10_close_287 : decode cX10_close 287 = .ok (.getfield 80, 3) := by decide +kernel
theorem dX10_close_290 : decode cX10_close 290 = .ok (.iload 8, 2) := by decide +kernel
theorem dX10_close_292 : decode cX10_close 292 = .ok (.baload, 1) := by decide +kernel
theorem dX10_close_293 : decode cX10_close 293 = .ok (.ifCond .eq 6, 3) := by decide +kernel
theorem dX10_close_296 : decode cX10_close 296 = .ok (.goto 31, 3) := by decide +kernel
theorem dX10_close_299 : decode cX10_close 299 = .ok (.aload_n 0, 1) := by decide +kernel
theorem dX10_close_300 : decode cX10_close 300 = .ok (.getfield 43, 3) := by decide +kernel
theorem dX10_close_303 : decode cX10_close 303 = .ok (.aload_n 0, 1) := by decide +kernel
theorem dX10_close_304 : decode cX10_close 304 = .ok (.getfield 74, 3) := by decide +kernel
theorem dX10_close_307 : decode cX10_close 307 = .ok (.iload 8, 2) := by decide +kernel
theorem dX10_close_309 : decode cX10_close 309 = .ok (.iaload, 1) := by decide +kernel
theorem dX10_close_310 : decode cX10_close 310 = .ok (.dup2, 1) := by decide +kernel
theorem dX10_close_311 : decode cX10_close 311 = .ok (.iaload, 1) := by decide +kernel
theorem dX10_close_312 : decode cX10_close 312 = .ok (.iload 7, 2) := by decide +kernel
theorem dX10_close_314 : decode cX10_close 314 = .ok (.iadd, 1) := by decide +kernel
theorem dX10_close_315 : decode cX10_close 315 = .ok (.iastore, 1) := by decide +kernel
theorem dX10_close_316 : decode cX10_close 316 = .ok (.aload_n 0, 1) := by decide +kernel
theorem dX10_close_317 : decode cX10_close 317 = .ok (.dup, 1) := by decide +kernel
theorem dX10_close_318 : decode cX10_close 318 = .ok (.getfield 294, 3) := by decide +kernel
theorem dX10_close_321 : decode cX10_close 321 = .ok (.iload 7, 2) := by decide +kernel
theorem dX10_close_323 : decode cX10_close 323 = .ok (.iadd, 1) := by decide +kernel
theorem dX10_close_324 : decode cX10_close 324 = .ok (.putfield 294, 3) := by decide +kernel
theorem dX10_close_327 : decode cX10_close 327 = .ok (.iinc 8 1, 3) := by decide +kernel
theorem dX10_close_330 : decode cX10_close 330 = .ok (.goto (-71), 3) := by decide +kernel
theorem dX10_close_333 : decode cX10_close 333 = .ok (.aload_n 0, 1) := by decide +kernel
theorem dX10_close_334 : decode cX10_close 334 = .ok (.dup, 1) := by decide +kernel
theorem dX10_close_335 : decode cX10_close 335 = .ok (.getfield 297, 3) := by decide +kernel
theorem dX10_close_338 : decode cX10_close 338 = .ok (.iconst 1, 1) := by decide +kernel
theorem dX10_close_339 : decode cX10_close 339 = .ok (.iadd, 1) := by decide +kernel
theorem dX10_close_340 : decode cX10_close 340 = .ok (.putfield 297, 3) := by decide +kernel
theorem dX10_close_343 : decode cX10_close 343 = .ok (.aload_n 0, 1) := by decide +kernel
theorem dX10_close_344 : decode cX10_close 344 = .ok (.getfield 110, 3) := by decide +kernel
theorem dX10_close_347 : decode cX10_close 347 = .ok (.iload_n 1, 1) := by decide +kernel
theorem dX10_close_348 : decode cX10_close 348 = .ok (.iaload, 1) := by decide +kernel
theorem dX10_close_349 : decode cX10_close 349 = .ok (.ireturn, 1) := by decide +kernel
set_option maxRecDepth 20000 in
theorem ggX10_court_X10_isCourt : GoodIn wsX10_court wsX10_isCourt := goodIn_r _ [16, 17, 18, 19, 15, 20] (by decide +kernel) (by decide +kernel)
set_option maxRecDepth 20000 in
theorem gX10_court_X10_isCourt : GoodIn wsX10_court (va_wsS RX10 276 yX10_isCourt wsX10_isCourt) := goodIn_app (goodIn_of _ (by decide +kernel)) ggX10_court_X10_isCourt
set_option maxRecDepth 20000 in
theorem ggX10_court_X10_discsOf : GoodIn wsX10_court wsX10_discsOf := goodIn_r _ [24, 2, 25, 26, 27, 28, 29, 30, 31, 32, 33, 34, 35, 36, 37, 38, 39, 40, 41, 42, 43, 44, 45, 46, 47, 48, 49, 50, 51, 52, 53, 54, 55, 56, 57, 58, 59, 60, 61, 62, 63, 64, 65, 66, 67, 68, 69, 70, 71, 72, 73, 74, 75, 76] (by decide +kernel) (by decide +kernel)
set_option maxRecDepth 20000 in
theorem gX10_court_X10_discsOf : GoodIn wsX10_court (wsV RX10 291 RX10 yX10_discsOf wsX10_discsOf) := goodIn_app (goodIn_of _ (by decide +kernel)) ggX10_court_X10_discsOf
theorem dX10_court_0 : decode cX10_court 0 = .ok (.iload_n 1, 1) := by decide +kernel
theorem dX10_court_1 : decode cX10_court 1 = .ok (.invokestatic 276, 3) := by decide +kernel
theorem dX10_court_4 : decode cX10_court 4 = .ok (.ifCond .ne 5, 3) := by decide +kernel
theorem dX10_court_7 : decode cX10_court 7 = .ok (.iconst (-1), 1) := by decide +kernel
theorem dX10_court_8 : decode cX10_court 8 = .ok (.ireturn, 1) := by decide +kernel
theorem dX10_court_9 : decode cX10_court 9 = .ok (.iload_n 2, 1) := by decide +kernel
theorem dX10_court_10 : decode cX10_court 10 = .ok (.ifCond .ne 10, 3) := by decide +kernel
theorem dX10_court_13 : decode cX10_court 13 = .ok (.aload_n 0, 1) := by decide +kernel
theorem dX10_court_14 : decode cX10_court 14 = .ok (.getfield 68, 3) := by decide +kernel
theorem dX10_court_17 : decode cX10_court 17 = .ok (.iload_n 1, 1) := by decide +kernel
theorem dX10_court_18 : decode cX10_court 18 = .ok (.iaload, 1) := by decide +kernel
theorem dX10_court_19 : decode cX10_court 19 = .ok (.ireturn, 1) := by decide +kernel
theorem dX10_court_20 : decode cX10_court 20 = .ok (.iload_n 2, 1) := by decide +kernel
theorem dX10_court_21 : decode cX10_court 21 = .ok (.iconst 1, 1) := by decide +kernel
theorem dX10_court_22 : decode cX10_court 22 = .ok (.if_icmp .ne 10, 3) := by decide +kernel
theorem dX10_court_25 : decode cX10_court 25 = .ok (.aload_n 0, 1) := by decide +kernel
theorem dX10_court_26 : decode cX10_court 26 = .ok (.getfield 71, 3) := by decide +kernel
theorem dX10_court_29 : decode cX10_court 29 = .ok (.iload_n 1, 1) := by decide +kernel
theorem dX10_court_30 : decode cX10_court 30 = .ok (.iaload, 1) := by decide +kernel
theorem dX10_court_31 : decode cX10_court 31 = .ok (.ireturn, 1) := by decide +kernel
theorem dX10_court_32 : decode cX10_court 32 = .ok (.iload_n 2, 1) := by decide +kernel
theorem dX10_court_33 : decode cX10_court 33 = .ok (.iconst 2, 1) := by decide +kernel
theorem dX10_court_34 : decode cX10_court 34 = .ok (.if_icmp .ne 18, 3) := by decide +kernel
theorem dX10_court_37 : decode cX10_court 37 = .ok (.aload_n 0, 1) := by decide +kernel
theorem dX10_court_38 : decode cX10_court 38 = .ok (.getfield 83, 3) := by decide +kernel
theorem dX10_court_41 : decode cX10_court 41 = .ok (.iload_n 1, 1) := by decide +kernel
theorem dX10_court_42 : decode cX10_court 42 = .ok (.baload, 1) := by decide +kernel
theorem dX10_court_43 : decode cX10_court 43 = .ok (.ifCond .eq 7, 3) := by decide +kernel
theorem dX10_court_46 : decode cX10_court 46 = .ok (.iconst 1, 1) := by decide +kernel
theorem dX10_court_47 : decode cX10_court 47 = .ok (.goto 4, 3) := by decide +kernel
theorem dX10_court_50 : decode cX10_court 50 = .ok (.iconst 0, 1) := by decide +kernel
theorem dX10_court_51 : decode cX10_court 51 = .ok (.ireturn, 1) := by decide +kernel
theorem dX10_court_52 : decode cX10_court 52 = .ok (.aload_n 0, 1) := by decide +kernel
theorem dX10_court_53 : decode cX10_court 53 = .ok (.getfield 86, 3) := by decide +kernel
theorem dX10_court_56 : decode cX10_court 56 = .ok (.iload_n 1, 1) := by decide +kernel
theorem dX10_court_57 : decode cX10_court 57 = .ok (.baload, 1) := by decide +kernel
theorem dX10_court_58 : decode cX10_court 58 = .ok (.ifCond .ne 5, 3) := by decide +kernel
theorem dX10_court_61 : decode cX10_court 61 = .ok (.iconst (-1), 1) := by decide +kernel
theorem dX10_court_62 : decode cX10_court 62 = .ok (.ireturn, 1) := by decide +kernel
theorem dX10_court_63 : decode cX10_court 63 = .ok (.iload_n 2, 1) := by decide +kernel
theorem dX10_court_64 : decode cX10_court 64 = .ok (.tableswitch 170 3 14 #[64, 71, 78, 85, 92, 92, 106, 113, 142, 149, 156, 163], 64) := by decide +kernel
theorem dX10_court_128 : decode cX10_court 128 = .ok (.aload_n 0, 1) := by decide +kernel
theorem dX10_court_129 : decode cX10_court 129 = .ok (.getfield 89, 3) := by decide +kernel
theorem dX10_court_132 : decode cX10_court 132 = .ok (.iload_n 1, 1) := by decide +kernel
theorem dX10_court_133 : decode cX10_court 133 = .ok (.iaload, 1) := by decide +kernel
theorem dX10_court_134 : decode cX10_court 134 = .ok (.ireturn, 1) := by decide +kernel
theorem dX10_court_135 : decode cX10_court 135 = .ok (.aload_n 0, 1) := by decide +kernel
theorem dX10_court_136 : decode cX10_court 136 = .ok (.getfield 92, 3) := by decide +kernel
theorem dX10_court_139 : decode cX10_court 139 = .ok (.iload_n 1, 1) := by decide +kernel
theorem dX10_court_140 : decode cX10_court 140 = .ok (.iaload, 1) := by decide +kernel
theorem dX10_court_141 : decode cX10_court 141 = .ok (.ireturn, 1) := by decide +kernel
theorem dX10_court_142 : decode cX10_court 142 = .ok (.aload_n 0, 1) := by decide +kernel
theorem dX10_court_143 : decode cX10_court 143 = .ok (.getfield 95, 3) := by decide +kernel
theorem dX10_court_146 : decode cX10_court 146 = .ok (.iload_n 1, 1) := by decide +kernel
theorem dX10_court_147 : decode cX10_court 147 = .ok (.iaload, 1) := by decide +kernel
theorem dX10_court_148 : decode cX10_court 148 = .ok (.ireturn, 1) := by decide +kernel
theorem dX10_court_149 : decode cX10_court 149 = .ok (.aload_n 0, 1) := by decide +kernel
theorem dX10_court_150 : decode cX10_court 150 = .ok (.getfield 98, 3) := by decide +kernel
theorem dX10_court_153 : decode cX10_court 153 = .ok (.iload_n 1, 1) := by decide +kernel
theorem dX10_court_154 : decode cX10_court 154 = .ok (.iaload, 1) := by decide +kernel
theorem dX10_court_155 : decode cX10_court 155 = .ok (.ireturn, 1) := by decide +kernel
theorem dX10_court_156 : decode cX10_court 156 = .ok (.aload_n 0, 1) := by decide +kernel
theorem dX10_court_157 : decode cX10_court 157 = .ok (.getfield 101, 3) := by decide +kernel
theorem dX10_court_160 : decode cX10_court 160 = .ok (.iconst 2, 1) := by decide +kernel
theorem dX10_court_161 : decode cX10_court 161 = .ok (.iload_n 1, 1) := by decide +kernel
theorem dX10_court_162 : decode cX10_court 162 = .ok (.imul, 1) := by decide +kernel
theorem dX10_court_163 : decode cX10_court 163 = .ok (.iload_n 2, 1) := by decide +kernel
theorem dX10_court_164 : decode cX10_court 164 = .ok (.iadd, 1) := by decide +kernel
theorem dX10_court_165 : decode cX10_court 165 = .ok (.bipush 7, 2) := by decide +kernel
theorem dX10_court_167 : decode cX10_court 167 = .ok (.isub, 1) := by decide +kernel
theorem dX10_court_168 : decode cX10_court 168 = .ok (.iaload, 1) := by decide +kernel
theorem dX10_court_169 : decode cX10_court 169 = .ok (.ireturn, 1) := by decide +kernel
theorem dX10_court_170 : decode cX10_court 170 = .ok (.aload_n 0, 1) := by decide +kernel
theorem dX10_court_171 : decode cX10_court 171 = .ok (.iload_n 1, 1) := by decide +kernel
theorem dX10_court_172 : decode cX10_court 172 = .ok (.iconst 0, 1) := by decide +kernel
theorem dX10_court_173 : decode cX10_court 173 = .ok (.invokevirtual 291, 3) := by decide +kernel
theorem dX10_court_176 : decode cX10_court 176 = .ok (.ireturn, 1) := by decide +kernel
theorem dX10_court_177 : decode cX10_court 177 = .ok (.aload_n 0, 1) := by decide +kernel
theorem dX10_court_178 : decode cX10_court 178 = .ok (.getfield 83, 3) := by decide +kernel
theorem dX10_court_181 : decode cX10_court 181 = .ok (.iload_n 1, 1) := by decide +kernel
theorem dX10_court_182 : decode cX10_court 182 = .ok (.baload, 1) := by decide +kernel
theorem dX10_court_183 : decode cX10_court 183 = .ok (.ifCond .eq 16, 3) := by decide +kernel
theorem dX10_court_186 : decode cX10_court 186 = .ok (.aload_n 0, 1) := by decide +kernel
theorem dX10_court_187 : decode cX10_court 187 = .ok (.iload_n 1, 1) := by decide +kernel
theorem dX10_court_188 : decode cX10_court 188 = .ok (.iconst 2, 1) := by decide +kernel
theorem dX10_court_189 : decode cX10_court 189 = .ok (.invokevirtual 291, 3) := by decide +kernel
theorem dX10_court_192 : decode cX10_court 192 = .ok (.ifCond .le 7, 3) := by decide +kernel
theorem dX10_court_195 : decode cX10_court 195 = .ok (.iconst (-1), 1) := by decide +kernel
theorem dX10_court_196 : decode cX10_court 196 = .ok (.goto 9, 3) := by decide +kernel
theorem dX10_court_199 : decode cX10_court 199 = .ok (.aload_n 0, 1) := by decide +kernel
theorem dX10_court_200 : decode cX10_court 200 = .ok (.iload_n 1, 1) := by decide +kernel
theorem dX10_court_201 : decode cX10_court 201 = .ok (.iconst 1, 1) := by decide +kernel
theorem dX10_court_202 : decode cX10_court 202 = .ok (.invokevirtual 291, 3) := by decide +kernel
theorem dX10_court_205 : decode cX10_court 205 = .ok (.ireturn, 1) := by decide +kernel
theorem dX10_court_206 : decode cX10_court 206 = .ok (.aload_n 0, 1) := by decide +kernel
theorem dX10_court_207 : decode cX10_court 207 = .ok (.iload_n 1, 1) := by decide +kernel
theorem dX10_court_208 : decode cX10_court 208 = .ok (.iconst 3, 1) := by decide +kernel
theorem dX10_court_209 : decode cX10_court 209 = .ok (.invokevirtual 291, 3) := by decide +kernel
theorem dX10_court_212 : decode cX10_court 212 = .ok (.ireturn, 1) := by decide +kernel
theorem dX10_court_213 : decode cX10_court 213 = .ok (.aload_n 0, 1) := by decide +kernel
theorem dX10_court_214 : decode cX10_court 214 = .ok (.getfield 110, 3) := by decide +kernel
theorem dX10_court_217 : decode cX10_court 217 = .ok (.iload_n 1, 1) := by decide +kernel
theorem dX10_court_218 : decode cX10_court 218 = .ok (.iaload, 1) := by decide +kernel
theorem dX10_court_219 : decode cX10_court 219 = .ok (.ireturn, 1) := by decide +kernel
theorem dX10_court_220 : decode cX10_court 220 = .ok (.aload_n 0, 1) := by decide +kernel
theorem dX10_court_221 : decode cX10_court 221 = .ok (.getfield 113, 3) := by decide +kernel
theorem dX10_court_224 : decode cX10_court 224 = .ok (.iload_n 1, 1) := by decide +kernel
theorem dX10_court_225 : decode cX10_court 225 = .ok (.iaload, 1) := by decide +kernel
theorem dX10_court_226 : decode cX10_court 226 = .ok (.ireturn, 1) := by decide +kernel
theorem dX10_court_227 : decode cX10_court 227 = .ok (.aload_n 0, 1) := by decide +kernel
theorem dX10_court_228 : decode cX10_court 228 = .ok (.getfield 116, 3) := by decide +kernel
theorem dX10_court_231 : decode cX10_court 231 = .ok (.iload_n 1, 1) := by decide +kernel
theorem dX10_court_232 : decode cX10_court 232 = .ok (.iaload, 1) := by decide +kernel
theorem dX10_court_233 : decode cX10_court 233 = .ok (.ireturn, 1) := by decide +kernel
theorem dX10_court_234 : decode cX10_court 234 = .ok (.iconst (-1), 1) := by decide +kernel
theorem dX10_court_235 : decode cX10_court 235 = .ok (.ireturn, 1) := by decide +kernel
theorem dX10_count_0 : decode cX10_count 0 = .ok (.iconst 0, 1) := by decide +kernel
theorem dX10_count_1 : decode cX10_count 1 = .ok (.istore_n 2, 1) := by decide +kernel
theorem dX10_count_2 : decode cX10_count 2 = .ok (.iload_n 1, 1) := by decide +kernel
theorem dX10_count_3 : decode cX10_count 3 = .ok (.tableswitch 125 0 8 #[49, 54, 59, 95, 100, 105, 110, 115, 120], 49) := by decide +kernel
theorem dX10_count_52 : decode cX10_count 52 = .ok (.aload_n 0, 1) := by decide +kernel
theorem dX10_count_53 : decode cX10_count 53 = .ok (.getfield 231, 3) := by decide +kernel
theorem dX10_count_56 : decode cX10_count 56 = .ok (.ireturn, 1) := by decide +kernel
theorem dX10_count_57 : decode cX10_count 57 = .ok (.aload_n 0, 1) := by decide +kernel
theorem dX10_count_58 : decode cX10_count 58 = .ok (.getfield 189, 3) := by decide +kernel
theorem dX10_count_61 : decode cX10_count 61 = .ok (.ireturn, 1) := by decide +kernel
theorem dX10_count_62 : decode cX10_count 62 = .ok (.iconst 0, 1) := by decide +kernel
theorem dX10_count_63 : decode cX10_count 63 = .ok (.istore_n 3, 1) := by decide +kernel
theorem dX10_count_64 : decode cX10_count 64 = .ok (.iload_n 3, 1) := by decide +kernel
theorem dX10_count_65 : decode cX10_count 65 = .ok (.aload_n 0, 1) := by decide +kernel
theorem dX10_count_66 : decode cX10_count 66 = .ok (.getfield 231, 3) := by decide +kernel
theorem dX10_count_69 : decode cX10_count 69 = .ok (.if_icmp .ge 27, 3) := by decide +kernel
theorem dX10_count_72 : decode cX10_count 72 = .ok (.iload_n 2, 1) := by decide +kernel
theorem dX10_count_73 : decode cX10_count 73 = .ok (.aload_n 0, 1) := by decide +kernel
theorem dX10_count_74 : decode cX10_count 74 = .ok (.getfield 46, 3) := by decide +kernel
theorem dX10_count_77 : decode cX10_count 77 = .ok (.iload_n 3, 1) := by decide +kernel
theorem dX10_count_78 : decode cX10_count 78 = .ok (.iaload, 1) := by decide +kernel
theorem dX10_count_79 : decode cX10_count 79 = .ok (.iconst (-1), 1) := by decide +kernel
theorem dX10_count_80 : decode cX10_count 80 = .ok (.if_icmp .eq 7, 3) := by decide +kernel
theorem dX10_count_83 : decode cX10_count 83 = .ok (.iconst 1, 1) := by decide +kernel
theorem dX10_count_84 : decode cX10_count 84 = .ok (.goto 4, 3) := by decide +kernel
theorem dX10_count_87 : decode cX10_count 87 = .ok (.iconst 0, 1) := by decide +kernel
theorem dX10_count_88 : decode cX10_count 88 = .ok (.iadd, 1) := by decide +kernel
theorem dX10_count_89 : decode cX10_count 89 = .ok (.istore_n 2, 1) := by decide +kernel
theorem dX10_count_90 : decode cX10_count 90 = .ok (.iinc 3 1, 3) := by decide +kernel
theorem dX10_count_93 : decode cX10_count 93 = .ok (.goto (-29), 3) := by decide +kernel
theorem dX10_count_96 : decode cX10_count 96 = .ok (.iload_n 2, 1) := by decide +kernel
theorem dX10_count_97 : decode cX10_count 97 = .ok (.ireturn, 1) := by decide +kernel
theorem dX10_count_98 : decode cX10_count 98 = .ok (.aload_n 0, 1) := by decide +kernel
theorem dX10_count_99 : decode cX10_count 99 = .ok (.getfield 254, 3) := by decide +kernel
theorem dX10_count_102 : decode cX10_count 102 = .ok (.ireturn, 1) := by decide +kernel
theorem dX10_count_103 : decode cX10_count 103 = .ok (.aload_n 0, 1) := by decide +kernel
theorem dX10_count_104 : decode cX10_count 104 = .ok (.getfield 257, 3) := by decide +kernel
theorem dX10_count_107 : decode cX10_count 107 = .ok (.ireturn, 1) := by decide +kernel
theorem dX10_count_108 : decode cX10_count 108 = .ok (.aload_n 0, 1) := by decide +kernel
theorem dX10_count_109 : decode cX10_count 109 = .ok (.getfield 204, 3) := by decide +kernel
theorem dX10_count_112 : decode cX10_count 112 = .ok (.ireturn, 1) := by decide +kernel
theorem dX10_count_113 : decode cX10_count 113 = .ok (.aload_n 0, 1) := by decide +kernel
theorem dX10_count_114 : decode cX10_count 114 = .ok (.getfield 122, 3) := by decide +kernel
theorem dX10_count_117 : decode cX10_count 117 = .ok (.ireturn, 1) := by decide +kernel
theorem dX10_count_118 : decode cX10_count 118 = .ok (.aload_n 0, 1) := by decide +kernel
theorem dX10_count_119 : decode cX10_count 119 = .ok (.getfield 297, 3) := by decide +kernel
theorem dX10_count_122 : decode cX10_count 122 = .ok (.ireturn, 1) := by decide +kernel
theorem dX10_count_123 : decode cX10_count 123 = .ok (.aload_n 0, 1) := by decide +kernel
theorem dX10_count_124 : decode cX10_count 124 = .ok (.getfield 294, 3) := by decide +kernel
theorem dX10_count_127 : decode cX10_count 127 = .ok (.ireturn, 1) := by decide +kernel
theorem dX10_count_128 : decode cX10_count 128 = .ok (.iconst (-1), 1) := by decide +kernel
theorem dX10_count_129 : decode cX10_count 129 = .ok (.ireturn, 1) := by decide +kernel
theorem dJ13_bitCount_95d88_0 : decode cJ13_bitCount_95d88 0 = .ok (.lload_n 0, 1) := by decide +kernel
theorem dJ13_bitCount_95d88_1 : decode cJ13_bitCount_95d88 1 = .ok (.lload_n 0, 1) := by decide +kernel
theorem dJ13_bitCount_95d88_2 : decode cJ13_bitCount_95d88 2 = .ok (.iconst 1, 1) := by decide +kernel
theorem dJ13_bitCount_95d88_3 : decode cJ13_bitCount_95d88 3 = .ok (.lushr, 1) := by decide +kernel
theorem dJ13_bitCount_95d88_4 : decode cJ13_bitCount_95d88 4 = .ok (.ldc2_w 314, 3) := by decide +kernel
theorem dJ13_bitCount_95d88_7 : decode cJ13_bitCount_95d88 7 = .ok (.land, 1) := by decide +kernel
theorem dJ13_bitCount_95d88_8 : decode cJ13_bitCount_95d88 8 = .ok (.lsub, 1) := by decide +kernel
theorem dJ13_bitCount_95d88_9 : decode cJ13_bitCount_95d88 9 = .ok (.lstore_n 0, 1) := by decide +kernel
theorem dJ13_bitCount_95d88_10 : decode cJ13_bitCount_95d88 10 = .ok (.lload_n 0, 1) := by decide +kernel
theorem dJ13_bitCount_95d88_11 : decode cJ13_bitCount_95d88 11 = .ok (.ldc2_w 316, 3) := by decide +kernel
theorem dJ13_bitCount_95d88_14 : decode cJ13_bitCount_95d88 14 = .ok (.land, 1) := by decide +kernel
theorem dJ13_bitCount_95d88_15 : decode cJ13_bitCount_95d88 15 = .ok (.lload_n 0, 1) := by decide +kernel
theorem dJ13_bitCount_95d88_16 : decode cJ13_bitCount_95d88 16 = .ok (.iconst 2, 1) := by decide +kernel
theorem dJ13_bitCount_95d88_17 : decode cJ13_bitCount_95d88 17 = .ok (.lushr, 1) := by decide +kernel
theorem dJ13_bitCount_95d88_18 : decode cJ13_bitCount_95d88 18 = .ok (.ldc2_w 316, 3) := by decide +kernel
theorem dJ13_bitCount_95d88_21 : decode cJ13_bitCount_95d88 21 = .ok (.land, 1) := by decide +kernel
theorem dJ13_bitCount_95d88_22 : decode cJ13_bitCount_95d88 22 = .ok (.ladd, 1) := by decide +kernel
theorem dJ13_bitCount_95d88_23 : decode cJ13_bitCount_95d88 23 = .ok (.lstore_n 0, 1) := by decide +kernel
theorem dJ13_bitCount_95d88_24 : decode cJ13_bitCount_95d88 24 = .ok (.lload_n 0, 1) := by decide +kernel
theorem dJ13_bitCount_95d88_25 : decode cJ13_bitCount_95d88 25 = .ok (.lload_n 0, 1) := by decide +kernel
theorem dJ13_bitCount_95d88_26 : decode cJ13_bitCount_95d88 26 = .ok (.iconst 4, 1) := by decide +kernel
theorem dJ13_bitCount_95d88_27 : decode cJ13_bitCount_95d88 27 = .ok (.lushr, 1) := by decide +kernel
theorem dJ13_bitCount_95d88_28 : decode cJ13_bitCount_95d88 28 = .ok (.ladd, 1) := by decide +kernel
theorem dJ13_bitCount_95d88_29 : decode cJ13_bitCount_95d88 29 = .ok (.ldc2_w 318, 3) := by decide +kernel
theorem dJ13_bitCount_95d88_32 : decode cJ13_bitCount_95d88 32 = .ok (.land, 1) := by decide +kernel
theorem dJ13_bitCount_95d88_33 : decode cJ13_bitCount_95d88 33 = .ok (.lstore_n 0, 1) := by decide +kernel
theorem dJ13_bitCount_95d88_34 : decode cJ13_bitCount_95d88 34 = .ok (.lload_n 0, 1) := by decide +kernel
theorem dJ13_bitCount_95d88_35 : decode cJ13_bitCount_95d88 35 = .ok (.lload_n 0, 1) := by decide +kernel
theorem dJ13_bitCount_95d88_36 : decode cJ13_bitCount_95d88 36 = .ok (.bipush 8, 2) := by decide +kernel
theorem dJ13_bitCount_95d88_38 : decode cJ13_bitCount_95d88 38 = .ok (.lushr, 1) := by decide +kernel
theorem dJ13_bitCount_95d88_39 : decode cJ13_bitCount_95d88 39 = .ok (.ladd, 1) := by decide +kernel
theorem dJ13_bitCount_95d88_40 : decode cJ13_bitCount_95d88 40 = .ok (.lstore_n 0, 1) := by decide +kernel
theorem dJ13_bitCount_95d88_41 : decode cJ13_bitCount_95d88 41 = .ok (.lload_n 0, 1) := by decide +kernel
theorem dJ13_bitCount_95d88_42 : decode cJ13_bitCount_95d88 42 = .ok (.lload_n 0, 1) := by decide +kernel
theorem dJ13_bitCount_95d88_43 : decode cJ13_bitCount_95d88 43 = .ok (.bipush 16, 2) := by decide +kernel
theorem dJ13_bitCount_95d88_45 : decode cJ13_bitCount_95d88 45 = .ok (.lushr, 1) := by decide +kernel
theorem dJ13_bitCount_95d88_46 : decode cJ13_bitCount_95d88 46 = .ok (.ladd, 1) := by decide +kernel
theorem dJ13_bitCount_95d88_47 : decode cJ13_bitCount_95d88 47 = .ok (.lstore_n 0, 1) := by decide +kernel
theorem dJ13_bitCount_95d88_48 : decode cJ13_bitCount_95d88 48 = .ok (.lload_n 0, 1) := by decide +kernel
theorem dJ13_bitCount_95d88_49 : decode cJ13_bitCount_95d88 49 = .ok (.lload_n 0, 1) := by decide +kernel
theorem dJ13_bitCount_95d88_50 : decode cJ13_bitCount_95d88 50 = .ok (.bipush 32, 2) := by decide +kernel
theorem dJ13_bitCount_95d88_52 : decode cJ13_bitCount_95d88 52 = .ok (.lushr, 1) := by decide +kernel
theorem dJ13_bitCount_95d88_53 : decode cJ13_bitCount_95d88 53 = .ok (.ladd, 1) := by decide +kernel
theorem dJ13_bitCount_95d88_54 : decode cJ13_bitCount_95d88 54 = .ok (.lstore_n 0, 1) := by decide +kernel
theorem dJ13_bitCount_95d88_55 : decode cJ13_bitCount_95d88 55 = .ok (.lload_n 0, 1) := by decide +kernel
theorem dJ13_bitCount_95d88_56 : decode cJ13_bitCount_95d88 56 = .ok (.l2i, 1) := by decide +kernel
theorem dJ13_bitCount_95d88_57 : decode cJ13_bitCount_95d88 57 = .ok (.bipush 127, 2) := by decide +kernel
theorem dJ13_bitCount_95d88_59 : decode cJ13_bitCount_95d88 59 = .ok (.iand, 1) := by decide +kernel
theorem dJ13_bitCount_95d88_60 : decode cJ13_bitCount_95d88 60 = .ok (.ireturn, 1) := by decide +kernel
theorem dJ9_max_7cf53_0 : decode cJ9_max_7cf53 0 = .ok (.iload_n 0, 1) := by decide +kernel
theorem dJ9_max_7cf53_1 : decode cJ9_max_7cf53 1 = .ok (.iload_n 1, 1) := by decide +kernel
theorem dJ9_max_7cf53_2 : decode cJ9_max_7cf53 2 = .ok (.if_icmp .lt 7, 3) := by decide +kernel
theorem dJ9_max_7cf53_5 : decode cJ9_max_7cf53 5 = .ok (.iload_n 0, 1) := by decide +kernel
theorem dJ9_max_7cf53_6 : decode cJ9_max_7cf53 6 = .ok (.goto 4, 3) := by decide +kernel
theorem dJ9_max_7cf53_9 : decode cJ9_max_7cf53 9 = .ok (.iload_n 1, 1) := by decide +kernel
theorem dJ9_max_7cf53_10 : decode cJ9_max_7cf53 10 = .ok (.ireturn, 1) := by decide +kernel
theorem dJ9_min_7cf53_0 : decode cJ9_min_7cf53 0 = .ok (.iload_n 0, 1) := by decide +kernel
theorem dJ9_min_7cf53_1 : decode cJ9_min_7cf53 1 = .ok (.iload_n 1, 1) := by decide +kernel
theorem dJ9_min_7cf53_2 : decode cJ9_min_7cf53 2 = .ok (.if_icmp .gt 7, 3) := by decide +kernel
theorem dJ9_min_7cf53_5 : decode cJ9_min_7cf53 5 = .ok (.iload_n 0, 1) := by decide +kernel
theorem dJ9_min_7cf53_6 : decode cJ9_min_7cf53 6 = .ok (.goto 4, 3) := by decide +kernel
theorem dJ9_min_7cf53_9 : decode cJ9_min_7cf53 9 = .ok (.iload_n 1, 1) := by decide +kernel
theorem dJ9_min_7cf53_10 : decode cJ9_min_7cf53 10 = .ok (.ireturn, 1) := by decide +kernel
set_option maxRecDepth 20000 in
theorem ggJ0_length_8abf5_J0_coder_7d493 : GoodIn wsJ0_length_8abf5 wsJ0_coder_7d493 := goodIn_r _ [6, 7, 8] (by decide +kernel) (by decide +kernel)
set_option maxRecDepth 20000 in
theorem gJ0_length_8abf5_J0_coder_7d493 : GoodIn wsJ0_length_8abf5 (wsV RJ0 335 RJ0 yJ0_coder_7d493 wsJ0_coder_7d493) := goodIn_app (goodIn_of _ (by decide +kernel)) ggJ0_length_8abf5_J0_coder_7d493
theorem dJ0_length_8abf5_0 : decode cJ0_length_8abf5 0 = .ok (.aload_n 0, 1) := by decide +kernel
theorem dJ0_length_8abf5_1 : decode cJ0_length_8abf5 1 = .ok (.getfield 9, 3) := by decide +kernel
theorem dJ0_length_8abf5_4 : decode cJ0_length_8abf5 4 = .ok (.arraylength, 1) := by decide +kernel
theorem dJ0_length_8abf5_5 : decode cJ0_length_8abf5 5 = .ok (.aload_n 0, 1) := by decide +kernel
theorem dJ0_length_8abf5_6 : decode cJ0_length_8abf5 6 = .ok (.invokevirtual 335, 3) := by decide +kernel
theorem dJ0_length_8abf5_9 : decode cJ0_length_8abf5 9 = .ok (.ishr, 1) := by decide +kernel
theorem dJ0_length_8abf5_10 : decode cJ0_length_8abf5 10 = .ok (.ireturn, 1) := by decide +kernel
set_option maxRecDepth 20000 in
theorem ggJ0_charAt_5068e_J0_isLatin1_aae02 : GoodIn wsJ0_charAt_5068e wsJ0_isLatin1_aae02 := goodIn_r _ [6, 7, 8] (by decide +kernel) (by decide +kernel)
set_option maxRecDepth 20000 in
theorem gJ0_charAt_5068e_J0_isLatin1_aae02 : GoodIn wsJ0_charAt_5068e (wsV RJ0 492 RJ0 yJ0_isLatin1_aae02 wsJ0_isLatin1_aae02) := goodIn_app (goodIn_of _ (by decide +kernel)) ggJ0_charAt_5068e_J0_isLatin1_aae02
set_option maxRecDepth 20000 in
theorem ggJ0_charAt_5068e_J1_charAt_3b067 : GoodIn wsJ0_charAt_5068e wsJ1_charAt_3b067 := goodIn_r _ [12, 13, 14, 5, 15, 16, 17, 18, 19, 20] (by decide +kernel) (by decide +kernel)
set_option maxRecDepth 20000 in
theorem gJ0_charAt_5068e_J1_charAt_3b067 : GoodIn wsJ0_charAt_5068e (va_wsS RJ0 495 yJ1_charAt_3b067 wsJ1_charAt_3b067) := goodIn_app (goodIn_of _ (by decide +kernel)) ggJ0_charAt_5068e_J1_charAt_3b067
set_option maxRecDepth 20000 in
theorem ggJ0_charAt_5068e_J2_charAt_3b067 : GoodIn wsJ0_charAt_5068e wsJ2_charAt_3b067 := goodIn_r _ [24, 25, 26, 23, 27, 28, 29, 30, 31, 14, 5, 15, 16, 17, 18, 19, 20, 32, 33, 34, 35, 36, 37] (by decide +kernel) (by decide +kernel)
set_option maxRecDepth 20000 in
theorem gJ0_charAt_5068e_J2_charAt_3b067 : GoodIn wsJ0_charAt_5068e (va_wsS RJ0 498 yJ2_charAt_3b067 wsJ2_charAt_3b067) := goodIn_app (goodIn_of _ (by decide +kernel)) ggJ0_charAt_5068e_J2_charAt_3b067
theorem dJ0_charAt_5068e_0 : decode cJ0_charAt_5068e 0 = .ok (.aload_n 0, 1) := by decide +kernel
theorem dJ0_charAt_5068e_1 : decode cJ0_charAt_5068e 1 = .ok (.invokevirtual 492, 3) := by decide +kernel
theorem dJ0_charAt_5068e_4 : decode cJ0_charAt_5068e 4 = .ok (.ifCond .eq 12, 3) := by decide +kernel
theorem dJ0_charAt_5068e_7 : decode cJ0_charAt_5068e 7 = .ok (.aload_n 0, 1) := by decide +kernel
theorem dJ0_charAt_5068e_8 : decode cJ0_charAt_5068e 8 = .ok (.getfield 9, 3) := by decide +kernel
theorem dJ0_charAt_5068e_11 : decode cJ0_charAt_5068e 11 = .ok (.iload_n 1, 1) := by decide +kernel
theorem dJ0_charAt_5068e_12 : decode cJ0_charAt_5068e 12 = .ok (.invokestatic 495, 3) := by decide +kernel
theorem dJ0_charAt_5068e_15 : decode cJ0_charAt_5068e 15 = .ok (.ireturn, 1) := by decide +kernel
theorem dJ0_charAt_5068e_16 : decode cJ0_charAt_5068e 16 = .ok (.aload_n 0, 1) := by decide +kernel
theorem dJ0_charAt_5068e_17 : decode cJ0_charAt_5068e 17 = .ok (.getfield 9, 3) := by decide +kernel
theorem dJ0_charAt_5068e_20 : decode cJ0_charAt_5068e 20 = .ok (.iload_n 1, 1) := by decide +kernel
theorem dJ0_charAt_5068e_21 : decode cJ0_charAt_5068e 21 = .ok (.invokestatic 498, 3) := by decide +kernel
theorem dJ0_charAt_5068e_24 : decode cJ0_charAt_5068e 24 = .ok (.ireturn, 1) := by decide +kernel
theorem dJ0_coder_7d493_0 : decode cJ0_coder_7d493 0 = .ok (.getstatic 38, 3) := by decide +kernel
theorem dJ0_coder_7d493_3 : decode cJ0_coder_7d493 3 = .ok (.ifCond .eq 10, 3) := by decide +kernel
theorem dJ0_coder_7d493_6 : decode cJ0_coder_7d493 6 = .ok (.aload_n 0, 1) := by decide +kernel
theorem dJ0_coder_7d493_7 : decode cJ0_coder_7d493 7 = .ok (.getfield 15, 3) := by decide +kernel
theorem dJ0_coder_7d493_10 : decode cJ0_coder_7d493 10 = .ok (.goto 4, 3) := by decide +kernel
theorem dJ0_coder_7d493_13 : decode cJ0_coder_7d493 13 = .ok (.iconst 1, 1) := by decide +kernel
theorem dJ0_coder_7d493_14 : decode cJ0_coder_7d493 14 = .ok (.ireturn, 1) := by decide +kernel
theorem dJ0_isLatin1_aae02_0 : decode cJ0_isLatin1_aae02 0 = .ok (.getstatic 38, 3) := by decide +kernel
theorem dJ0_isLatin1_aae02_3 : decode cJ0_isLatin1_aae02 3 = .ok (.ifCond .eq 14, 3) := by decide +kernel
theorem dJ0_isLatin1_aae02_6 : decode cJ0_isLatin1_aae02 6 = .ok (.aload_n 0, 1) := by decide +kernel
theorem dJ0_isLatin1_aae02_7 : decode cJ0_isLatin1_aae02 7 = .ok (.getfield 15, 3) := by decide +kernel
theorem dJ0_isLatin1_aae02_10 : decode cJ0_isLatin1_aae02 10 = .ok (.ifCond .ne 7, 3) := by decide +kernel
theorem dJ0_isLatin1_aae02_13 : decode cJ0_isLatin1_aae02 13 = .ok (.iconst 1, 1) := by decide +kernel
theorem dJ0_isLatin1_aae02_14 : decode cJ0_isLatin1_aae02 14 = .ok (.goto 4, 3) := by decide +kernel
theorem dJ0_isLatin1_aae02_17 : decode cJ0_isLatin1_aae02 17 = .ok (.iconst 0, 1) := by decide +kernel
theorem dJ0_isLatin1_aae02_18 : decode cJ0_isLatin1_aae02 18 = .ok (.ireturn, 1) := by decide +kernel
set_option maxRecDepth 20000 in
theorem ggJ0_checkIndex_df160_J3_checkIndex_8e157 : GoodIn wsJ0_checkIndex_df160 wsJ3_checkIndex_8e157 := goodIn_r _ [5] (by decide +kernel) (by decide +kernel)
set_option maxRecDepth 20000 in
theorem gJ0_checkIndex_df160_J3_checkIndex_8e157 : GoodIn wsJ0_checkIndex_df160 (va_wsS RJ0 1059 yJ3_checkIndex_8e157 wsJ3_checkIndex_8e157) := goodIn_app (goodIn_of _ (by decide +kernel)) ggJ0_checkIndex_df160_J3_checkIndex_8e157
theorem dJ0_checkIndex_df160_0 : decode cJ0_checkIndex_df160 0 = .ok (.iload_n 0, 1) := by decide +kernel
theorem dJ0_checkIndex_df160_1 : decode cJ0_checkIndex_df160 1 = .ok (.iload_n 1, 1) := by decide +kernel
theorem dJ0_checkIndex_df160_2 : decode cJ0_checkIndex_df160 2 = .ok (.getstatic 1053, 3) := by decide +kernel
theorem dJ0_checkIndex_df160_5 : decode cJ0_checkIndex_df160 5 = .ok (.invokestatic 1059, 3) := by decide +kernel
theorem dJ0_checkIndex_df160_8 : decode cJ0_checkIndex_df160 8 = .ok (.pop, 1) := by decide +kernel
theorem dJ0_checkIndex_df160_9 : decode cJ0_checkIndex_df160 9 = .ok (.return_, 1) := by decide +kernel
set_option maxRecDepth 20000 in
theorem ggJ1_charAt_3b067_J0_checkIndex_df160 : GoodIn wsJ1_charAt_3b067 wsJ0_checkIndex_df160 := goodIn_r _ [4, 5, 6, 7, 8, 9] (by decide +kernel) (by decide +kernel)
set_option maxRecDepth 20000 in
theorem gJ1_charAt_3b067_J0_checkIndex_df160 : GoodIn wsJ1_charAt_3b067 (va_wsS RJ1 9 yJ0_checkIndex_df160 wsJ0_checkIndex_df160) := goodIn_app (goodIn_of _ (by decide +kernel)) ggJ1_charAt_3b067_J0_checkIndex_df160
theorem dJ1_charAt_3b067_0 : decode cJ1_charAt_3b067 0 = .ok (.iload_n 1, 1) := by decide +kernel
theorem dJ1_charAt_3b067_1 : decode cJ1_charAt_3b067 1 = .ok (.aload_n 0, 1) := by decide +kernel
theorem dJ1_charAt_3b067_2 : decode cJ1_charAt_3b067 2 = .ok (.arraylength, 1) := by decide +kernel
theorem dJ1_charAt_3b067_3 : decode cJ1_charAt_3b067 3 = .ok (.invokestatic 9, 3) := by decide +kernel
theorem dJ1_charAt_3b067_6 : decode cJ1_charAt_3b067 6 = .ok (.aload_n 0, 1) := by decide +kernel
theorem dJ1_charAt_3b067_7 : decode cJ1_charAt_3b067 7 = .ok (.iload_n 1, 1) := by decide +kernel
theorem dJ1_charAt_3b067_8 : decode cJ1_charAt_3b067 8 = .ok (.baload, 1) := by decide +kernel
theorem dJ1_charAt_3b067_9 : decode cJ1_charAt_3b067 9 = .ok (.sipush 255, 3) := by decide +kernel
theorem dJ1_charAt_3b067_12 : decode cJ1_charAt_3b067 12 = .ok (.iand, 1) := by decide +kernel
theorem dJ1_charAt_3b067_13 : decode cJ1_charAt_3b067 13 = .ok (.i2c, 1) := by decide +kernel
theorem dJ1_charAt_3b067_14 : decode cJ1_charAt_3b067 14 = .ok (.ireturn, 1) := by decide +kernel
set_option maxRecDepth 20000 in
theorem ggJ2_getChar_3b067_J2_length_9d52b : GoodIn wsJ2_getChar_3b067 wsJ2_length_9d52b := goodIn_r _ [7] (by decide +kernel) (by decide +kernel)
set_option maxRecDepth 20000 in
theorem gJ2_getChar_3b067_J2_length_9d52b : GoodIn wsJ2_getChar_3b067 (va_wsS RJ2 48 yJ2_length_9d52b wsJ2_length_9d52b) := goodIn_app (goodIn_of _ (by decide +kernel)) ggJ2_getChar_3b067_J2_length_9d52b
theorem dJ2_getChar_3b067_0 : decode cJ2_getChar_3b067 0 = .ok (.getstatic 44, 3) := by decide +kernel
theorem dJ2_getChar_3b067_3 : decode cJ2_getChar_3b067 3 = .ok (.ifCond .ne 25, 3) := by decide +kernel
theorem dJ2_getChar_3b067_6 : decode cJ2_getChar_3b067 6 = .ok (.iload_n 1, 1) := by decide +kernel
theorem dJ2_getChar_3b067_7 : decode cJ2_getChar_3b067 7 = .ok (.ifCond .lt 11, 3) := by decide +kernel
theorem dJ2_getChar_3b067_10 : decode cJ2_getChar_3b067 10 = .ok (.iload_n 1, 1) := by decide +kernel
theorem dJ2_getChar_3b067_11 : decode cJ2_getChar_3b067 11 = .ok (.aload_n 0, 1) := by decide +kernel
theorem dJ2_getChar_3b067_12 : decode cJ2_getChar_3b067 12 = .ok (.invokestatic 48, 3) := by decide +kernel
theorem dJ2_getChar_3b067_15 : decode cJ2_getChar_3b067 15 = .ok (.if_icmp .lt 13, 3) := by decide +kernel
theorem dJ2_getChar_3b067_18 : decode cJ2_getChar_3b067 18 = .ok (.new 52, 3) := by decide +kernel
theorem dJ2_getChar_3b067_21 : decode cJ2_getChar_3b067 21 = .ok (.dup, 1) := by decide +kernel
theorem dJ2_getChar_3b067_22 : decode cJ2_getChar_3b067 22 = .ok (.ldc 54, 2) := by decide +kernel
theorem dJ2_getChar_3b067_24 : decode cJ2_getChar_3b067 24 = .ok (.invokespecial 56, 3) := by decide +kernel
theorem dJ2_getChar_3b067_27 : decode cJ2_getChar_3b067 27 = .ok (.athrow, 1) := by decide +kernel
theorem dJ2_getChar_3b067_28 : decode cJ2_getChar_3b067 28 = .ok (.iload_n 1, 1) := by decide +kernel
theorem dJ2_getChar_3b067_29 : decode cJ2_getChar_3b067 29 = .ok (.iconst 1, 1) := by decide +kernel
theorem dJ2_getChar_3b067_30 : decode cJ2_getChar_3b067 30 = .ok (.ishl, 1) := by decide +kernel
theorem dJ2_getChar_3b067_31 : decode cJ2_getChar_3b067 31 = .ok (.istore_n 1, 1) := by decide +kernel
theorem dJ2_getChar_3b067_32 : decode cJ2_getChar_3b067 32 = .ok (.aload_n 0, 1) := by decide +kernel
theorem dJ2_getChar_3b067_33 : decode cJ2_getChar_3b067 33 = .ok (.iload_n 1, 1) := by decide +kernel
theorem dJ2_getChar_3b067_34 : decode cJ2_getChar_3b067 34 = .ok (.iinc 1 1, 3) := by decide +kernel
theorem dJ2_getChar_3b067_37 : decode cJ2_getChar_3b067 37 = .ok (.baload, 1) := by decide +kernel
theorem dJ2_getChar_3b067_38 : decode cJ2_getChar_3b067 38 = .ok (.sipush 255, 3) := by decide +kernel
theorem dJ2_getChar_3b067_41 : decode cJ2_getChar_3b067 41 = .ok (.iand, 1) := by decide +kernel
theorem dJ2_getChar_3b067_42 : decode cJ2_getChar_3b067 42 = .ok (.getstatic 59, 3) := by decide +kernel
theorem dJ2_getChar_3b067_45 : decode cJ2_getChar_3b067 45 = .ok (.ishl, 1) := by decide +kernel
theorem dJ2_getChar_3b067_46 : decode cJ2_getChar_3b067 46 = .ok (.aload_n 0, 1) := by decide +kernel
theorem dJ2_getChar_3b067_47 : decode cJ2_getChar_3b067 47 = .ok (.iload_n 1, 1) := by decide +kernel
theorem dJ2_getChar_3b067_48 : decode cJ2_getChar_3b067 48 = .ok (.baload, 1) := by decide +kernel
theorem dJ2_getChar_3b067_49 : decode cJ2_getChar_3b067 49 = .ok (.sipush 255, 3) := by decide +kernel
theorem dJ2_getChar_3b067_52 : decode cJ2_getChar_3b067 52 = .ok (.iand, 1) := by decide +kernel
theorem dJ2_getChar_3b067_53 : decode cJ2_getChar_3b067 53 = .ok (.getstatic 63, 3) := by decide +kernel
theorem dJ2_getChar_3b067_56 : decode cJ2_getChar_3b067 56 = .ok (.ishl, 1) := by decide +kernel
theorem dJ2_getChar_3b067_57 : decode cJ2_getChar_3b067 57 = .ok (.ior, 1) := by decide +kernel
theorem dJ2_getChar_3b067_58 : decode cJ2_getChar_3b067 58 = .ok (.i2c, 1) := by decide +kernel
theorem dJ2_getChar_3b067_59 : decode cJ2_getChar_3b067 59 = .ok (.ireturn, 1) := by decide +kernel
theorem dJ2_length_9d52b_0 : decode cJ2_length_9d52b 0 = .ok (.aload_n 0, 1) := by decide +kernel
theorem dJ2_length_9d52b_1 : decode cJ2_length_9d52b 1 = .ok (.arraylength, 1) := by decide +kernel
theorem dJ2_length_9d52b_2 : decode cJ2_length_9d52b 2 = .ok (.iconst 1, 1) := by decide +kernel
theorem dJ2_length_9d52b_3 : decode cJ2_length_9d52b 3 = .ok (.ishr, 1) := by decide +kernel
theorem dJ2_length_9d52b_4 : decode cJ2_length_9d52b 4 = .ok (.ireturn, 1) := by decide +kernel
set_option maxRecDepth 20000 in
theorem ggJ2_charAt_3b067_J2_checkIndex_2214a : GoodIn wsJ2_charAt_3b067 wsJ2_checkIndex_2214a := goodIn_r _ [4, 5, 6, 3, 7, 8, 9, 10, 11, 12, 13, 14, 15, 16] (by decide +kernel) (by decide +kernel)
set_option maxRecDepth 20000 in
theorem gJ2_charAt_3b067_J2_checkIndex_2214a : GoodIn wsJ2_charAt_3b067 (va_wsS RJ2 67 yJ2_checkIndex_2214a wsJ2_checkIndex_2214a) := goodIn_app (goodIn_of _ (by decide +kernel)) ggJ2_charAt_3b067_J2_checkIndex_2214a
set_option maxRecDepth 20000 in
theorem ggJ2_charAt_3b067_J2_getChar_3b067 : GoodIn wsJ2_charAt_3b067 wsJ2_getChar_3b067 := goodIn_r _ [19, 20, 21, 22, 5, 6, 3, 7] (by decide +kernel) (by decide +kernel)
set_option maxRecDepth 20000 in
theorem gJ2_charAt_3b067_J2_getChar_3b067 : GoodIn wsJ2_charAt_3b067 (va_wsS RJ2 71 yJ2_getChar_3b067 wsJ2_getChar_3b067) := goodIn_app (goodIn_of _ (by decide +kernel)) ggJ2_charAt_3b067_J2_getChar_3b067
theorem dJ2_charAt_3b067_0 : decode cJ2_charAt_3b067 0 = .ok (.iload_n 1, 1) := by decide +kernel
theorem dJ2_charAt_3b067_1 : decode cJ2_charAt_3b067 1 = .ok (.aload_n 0, 1) := by decide +kernel
theorem dJ2_charAt_3b067_2 : decode cJ2_charAt_3b067 2 = .ok (.invokestatic 67, 3) := by decide +kernel
theorem dJ2_charAt_3b067_5 : decode cJ2_charAt_3b067 5 = .ok (.aload_n 0, 1) := by decide +kernel
theorem dJ2_charAt_3b067_6 : decode cJ2_charAt_3b067 6 = .ok (.iload_n 1, 1) := by decide +kernel
theorem dJ2_charAt_3b067_7 : decode cJ2_charAt_3b067 7 = .ok (.invokestatic 71, 3) := by decide +kernel
theorem dJ2_charAt_3b067_10 : decode cJ2_charAt_3b067 10 = .ok (.ireturn, 1) := by decide +kernel
set_option maxRecDepth 20000 in
theorem ggJ2_checkIndex_2214a_J2_length_9d52b : GoodIn wsJ2_checkIndex_2214a wsJ2_length_9d52b := goodIn_r _ [4] (by decide +kernel) (by decide +kernel)
set_option maxRecDepth 20000 in
theorem gJ2_checkIndex_2214a_J2_length_9d52b : GoodIn wsJ2_checkIndex_2214a (va_wsS RJ2 48 yJ2_length_9d52b wsJ2_length_9d52b) := goodIn_app (goodIn_of _ (by decide +kernel)) ggJ2_checkIndex_2214a_J2_length_9d52b
set_option maxRecDepth 20000 in
theorem ggJ2_checkIndex_2214a_J0_checkIndex_df160 : GoodIn wsJ2_checkIndex_2214a wsJ0_checkIndex_df160 := goodIn_r _ [8, 9, 10, 11, 12, 13] (by decide +kernel) (by decide +kernel)
set_option maxRecDepth 20000 in
theorem gJ2_checkIndex_2214a_J0_checkIndex_df160 : GoodIn wsJ2_checkIndex_2214a (va_wsS RJ2 414 yJ0_checkIndex_df160 wsJ0_checkIndex_df160) := goodIn_app (goodIn_of _ (by decide +kernel)) ggJ2_checkIndex_2214a_J0_checkIndex_df160
theorem dJ2_checkIndex_2214a_0 : decode cJ2_checkIndex_2214a 0 = .ok (.iload_n 0, 1) := by decide +kernel
theorem dJ2_checkIndex_2214a_1 : decode cJ2_checkIndex_2214a 1 = .ok (.aload_n 1, 1) := by decide +kernel
theorem dJ2_checkIndex_2214a_2 : decode cJ2_checkIndex_2214a 2 = .ok (.invokestatic 48, 3) := by decide +kernel
theorem dJ2_checkIndex_2214a_5 : decode cJ2_checkIndex_2214a 5 = .ok (.invokestatic 414, 3) := by decide +kernel
theorem dJ2_checkIndex_2214a_8 : decode cJ2_checkIndex_2214a 8 = .ok (.return_, 1) := by decide +kernel
theorem dJ7_fill_d0a16_0 : decode cJ7_fill_d0a16 0 = .ok (.iconst 0, 1) := by decide +kernel
theorem dJ7_fill_d0a16_1 : decode cJ7_fill_d0a16 1 = .ok (.istore_n 3, 1) := by decide +kernel
theorem dJ7_fill_d0a16_2 : decode cJ7_fill_d0a16 2 = .ok (.aload_n 0, 1) := by decide +kernel
theorem dJ7_fill_d0a16_3 : decode cJ7_fill_d0a16 3 = .ok (.arraylength, 1) := by decide +kernel
theorem dJ7_fill_d0a16_4 : decode cJ7_fill_d0a16 4 = .ok (.istore 4, 2) := by decide +kernel
theorem dJ7_fill_d0a16_6 : decode cJ7_fill_d0a16 6 = .ok (.iload_n 3, 1) := by decide +kernel
theorem dJ7_fill_d0a16_7 : decode cJ7_fill_d0a16 7 = .ok (.iload 4, 2) := by decide +kernel
theorem dJ7_fill_d0a16_9 : decode cJ7_fill_d0a16 9 = .ok (.if_icmp .ge 13, 3) := by decide +kernel
theorem dJ7_fill_d0a16_12 : decode cJ7_fill_d0a16 12 = .ok (.aload_n 0, 1) := by decide +kernel
theorem dJ7_fill_d0a16_13 : decode cJ7_fill_d0a16 13 = .ok (.iload_n 3, 1) := by decide +kernel
theorem dJ7_fill_d0a16_14 : decode cJ7_fill_d0a16 14 = .ok (.lload_n 1, 1) := by decide +kernel
theorem dJ7_fill_d0a16_15 : decode cJ7_fill_d0a16 15 = .ok (.lastore, 1) := by decide +kernel
theorem dJ7_fill_d0a16_16 : decode cJ7_fill_d0a16 16 = .ok (.iinc 3 1, 3) := by decide +kernel
theorem dJ7_fill_d0a16_19 : decode cJ7_fill_d0a16 19 = .ok (.goto (-13), 3) := by decide +kernel
theorem dJ7_fill_d0a16_22 : decode cJ7_fill_d0a16 22 = .ok (.return_, 1) := by decide +kernel
theorem dJ7_fill_53178_0 : decode cJ7_fill_53178 0 = .ok (.iconst 0, 1) := by decide +kernel
theorem dJ7_fill_53178_1 : decode cJ7_fill_53178 1 = .ok (.istore_n 2, 1) := by decide +kernel
theorem dJ7_fill_53178_2 : decode cJ7_fill_53178 2 = .ok (.aload_n 0, 1) := by decide +kernel
theorem dJ7_fill_53178_3 : decode cJ7_fill_53178 3 = .ok (.arraylength, 1) := by decide +kernel
theorem dJ7_fill_53178_4 : decode cJ7_fill_53178 4 = .ok (.istore_n 3, 1) := by decide +kernel
theorem dJ7_fill_53178_5 : decode cJ7_fill_53178 5 = .ok (.iload_n 2, 1) := by decide +kernel
theorem dJ7_fill_53178_6 : decode cJ7_fill_53178 6 = .ok (.iload_n 3, 1) := by decide +kernel
theorem dJ7_fill_53178_7 : decode cJ7_fill_53178 7 = .ok (.if_icmp .ge 13, 3) := by decide +kernel
theorem dJ7_fill_53178_10 : decode cJ7_fill_53178 10 = .ok (.aload_n 0, 1) := by decide +kernel
theorem dJ7_fill_53178_11 : decode cJ7_fill_53178 11 = .ok (.iload_n 2, 1) := by decide +kernel
theorem dJ7_fill_53178_12 : decode cJ7_fill_53178 12 = .ok (.iload_n 1, 1) := by decide +kernel
theorem dJ7_fill_53178_13 : decode cJ7_fill_53178 13 = .ok (.iastore, 1) := by decide +kernel
theorem dJ7_fill_53178_14 : decode cJ7_fill_53178 14 = .ok (.iinc 2 1, 3) := by decide +kernel
theorem dJ7_fill_53178_17 : decode cJ7_fill_53178 17 = .ok (.goto (-12), 3) := by decide +kernel
theorem dJ7_fill_53178_20 : decode cJ7_fill_53178 20 = .ok (.return_, 1) := by decide +kernel
theorem dJ3_checkIndex_8e157_0 : decode cJ3_checkIndex_8e157 0 = .ok (.iload_n 0, 1) := by decide +kernel
theorem dJ3_checkIndex_8e157_1 : decode cJ3_checkIndex_8e157 1 = .ok (.ifCond .lt 8, 3) := by decide +kernel
theorem dJ3_checkIndex_8e157_4 : decode cJ3_checkIndex_8e157 4 = .ok (.iload_n 0, 1) := by decide +kernel
theorem dJ3_checkIndex_8e157_5 : decode cJ3_checkIndex_8e157 5 = .ok (.iload_n 1, 1) := by decide +kernel
theorem dJ3_checkIndex_8e157_6 : decode cJ3_checkIndex_8e157 6 = .ok (.if_icmp .lt 10, 3) := by decide +kernel
theorem dJ3_checkIndex_8e157_9 : decode cJ3_checkIndex_8e157 9 = .ok (.aload_n 2, 1) := by decide +kernel
theorem dJ3_checkIndex_8e157_10 : decode cJ3_checkIndex_8e157 10 = .ok (.iload_n 0, 1) := by decide +kernel
theorem dJ3_checkIndex_8e157_11 : decode cJ3_checkIndex_8e157 11 = .ok (.iload_n 1, 1) := by decide +kernel
theorem dJ3_checkIndex_8e157_12 : decode cJ3_checkIndex_8e157 12 = .ok (.invokestatic 95, 3) := by decide +kernel
theorem dJ3_checkIndex_8e157_15 : decode cJ3_checkIndex_8e157 15 = .ok (.athrow, 1) := by decide +kernel
theorem dJ3_checkIndex_8e157_16 : decode cJ3_checkIndex_8e157 16 = .ok (.iload_n 0, 1) := by decide +kernel
theorem dJ3_checkIndex_8e157_17 : decode cJ3_checkIndex_8e157 17 = .ok (.ireturn, 1) := by decide +kernel
abbrev vwCl : List vw_C := [(RX0, TX0, 1), (RX1, TX1, 10), (RX2, TX2, 4), (RX3, TX3, 7), (RX4, TX4, 3), (RX5, TX5, 10), (RX6, TX6, 2), (RX7, TX7, 16), (RX8, TX8, 2), (RX9, TX9, 11), (RX10, TX10, 50)]
