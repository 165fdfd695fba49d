theorem dX5_readText_53 : decode cX5_readText 53 = .ok (.goto (-41), 3) := by decide +kernel
theorem dX5_readText_56 : decode cX5_readText 56 = .ok (.iload_n 1, 1) := by decide +kernel
theorem dX5_readText_57 : decode cX5_readText 57 = .ok (.ireturn, 1) := by decide +kernel
set_option maxRecDepth 20000 in
theorem ggX5_startAnew_X6_forget : GoodIn wsX5_startAnew wsX6_forget := goodIn_r _ [11, 12, 13, 14, 15, 16, 27, 28] (by decide +kernel) (by decide +kernel)
set_option maxRecDepth 20000 in
theorem gX5_startAnew_X6_forget : GoodIn wsX5_startAnew (wsV RX5 51 RX6 yX6_forget wsX6_forget) := goodIn_app (goodIn_of _ (by decide +kernel)) ggX5_startAnew_X6_forget
theorem dX5_startAnew_0 : decode cX5_startAnew 0 = .ok (.aload_n 0, 1) := by decide +kernel
theorem dX5_startAnew_1 : decode cX5_startAnew 1 = .ok (.getfield 12, 3) := by decide +kernel
theorem dX5_startAnew_4 : decode cX5_startAnew 4 = .ok (.invokevirtual 51, 3) := by decide +kernel
theorem dX5_startAnew_7 : decode cX5_startAnew 7 = .ok (.iconst 0, 1) := by decide +kernel
theorem dX5_startAnew_8 : decode cX5_startAnew 8 = .ok (.istore_n 1, 1) := by decide +kernel
theorem dX5_startAnew_9 : decode cX5_startAnew 9 = .ok (.iload_n 1, 1) := by decide +kernel
theorem dX5_startAnew_10 : decode cX5_startAnew 10 = .ok (.aload_n 0, 1) := by decide +kernel
theorem dX5_startAnew_11 : decode cX5_startAnew 11 = .ok (.getfield 18, 3) := by decide +kernel
theorem dX5_startAnew_14 : decode cX5_startAnew 14 = .ok (.arraylength, 1) := by decide +kernel
theorem dX5_startAnew_15 : decode cX5_startAnew 15 = .ok (.if_icmp .ge 16, 3) := by decide +kernel
theorem dX5_startAnew_18 : decode cX5_startAnew 18 = .ok (.aload_n 0, 1) := by decide +kernel
theorem dX5_startAnew_19 : decode cX5_startAnew 19 = .ok (.getfield 18, 3) := by decide +kernel
theorem dX5_startAnew_22 : decode cX5_startAnew 22 = .ok (.iload_n 1, 1) := by decide +kernel
theorem dX5_startAnew_23 : decode cX5_startAnew 23 = .ok (.iconst 0, 1) := by decide +kernel
theorem dX5_startAnew_24 : decode cX5_startAnew 24 = .ok (.bastore, 1) := by decide +kernel
theorem dX5_startAnew_25 : decode cX5_startAnew 25 = .ok (.iinc 1 1, 3) := by decide +kernel
theorem dX5_startAnew_28 : decode cX5_startAnew 28 = .ok (.goto (-19), 3) := by decide +kernel
theorem dX5_startAnew_31 : decode cX5_startAnew 31 = .ok (.iconst 0, 1) := by decide +kernel
theorem dX5_startAnew_32 : decode cX5_startAnew 32 = .ok (.istore_n 1, 1) := by decide +kernel
theorem dX5_startAnew_33 : decode cX5_startAnew 33 = .ok (.iload_n 1, 1) := by decide +kernel
theorem dX5_startAnew_34 : decode cX5_startAnew 34 = .ok (.aload_n 0, 1) := by decide +kernel
theorem dX5_startAnew_35 : decode cX5_startAnew 35 = .ok (.getfield 22, 3) := by decide +kernel
theorem dX5_startAnew_38 : decode cX5_startAnew 38 = .ok (.arraylength, 1) := by decide +kernel
theorem dX5_startAnew_39 : decode cX5_startAnew 39 = .ok (.if_icmp .ge 16, 3) := by decide +kernel
theorem dX5_startAnew_42 : decode cX5_startAnew 42 = .ok (.aload_n 0, 1) := by decide +kernel
theorem dX5_startAnew_43 : decode cX5_startAnew 43 = .ok (.getfield 22, 3) := by decide +kernel
theorem dX5_startAnew_46 : decode cX5_startAnew 46 = .ok (.iload_n 1, 1) := by decide +kernel
theorem dX5_startAnew_47 : decode cX5_startAnew 47 = .ok (.iconst 0, 1) := by decide +kernel
theorem dX5_startAnew_48 : decode cX5_startAnew 48 = .ok (.bastore, 1) := by decide +kernel
theorem dX5_startAnew_49 : decode cX5_startAnew 49 = .ok (.iinc 1 1, 3) := by decide +kernel
theorem dX5_startAnew_52 : decode cX5_startAnew 52 = .ok (.goto (-19), 3) := by decide +kernel
theorem dX5_startAnew_55 : decode cX5_startAnew 55 = .ok (.aload_n 0, 1) := by decide +kernel
theorem dX5_startAnew_56 : decode cX5_startAnew 56 = .ok (.iconst 0, 1) := by decide +kernel
theorem dX5_startAnew_57 : decode cX5_startAnew 57 = .ok (.putfield 54, 3) := by decide +kernel
theorem dX5_startAnew_60 : decode cX5_startAnew 60 = .ok (.aload_n 0, 1) := by decide +kernel
theorem dX5_startAnew_61 : decode cX5_startAnew 61 = .ok (.iconst (-1), 1) := by decide +kernel
theorem dX5_startAnew_62 : decode cX5_startAnew 62 = .ok (.putfield 29, 3) := by decide +kernel
theorem dX5_startAnew_65 : decode cX5_startAnew 65 = .ok (.aload_n 0, 1) := by decide +kernel
theorem dX5_startAnew_66 : decode cX5_startAnew 66 = .ok (.iconst 0, 1) := by decide +kernel
theorem dX5_startAnew_67 : decode cX5_startAnew 67 = .ok (.putfield 57, 3) := by decide +kernel
theorem dX5_startAnew_70 : decode cX5_startAnew 70 = .ok (.return_, 1) := by decide +kernel
set_option maxRecDepth 20000 in
theorem ggX5_readLine_X5_isWord : GoodIn wsX5_readLine wsX5_isWord := goodIn_r _ [5, 6, 7, 8, 9, 10, 11, 12, 13, 14, 15, 16, 17, 18, 19, 20, 21, 22, 23, 24, 25, 26, 27, 28, 29, 30, 31, 32, 33, 34, 35, 36, 37, 38, 39, 40, 41, 42, 43, 44, 45, 46, 47, 48, 49, 50, 51, 52, 53, 54, 55, 56, 57, 58, 59, 60, 61, 62, 63, 64, 65, 128, 129, 130, 131, 132, 133, 134, 135, 136, 137, 138, 139] (by decide +kernel) (by decide +kernel)
set_option maxRecDepth 20000 in
theorem gX5_readLine_X5_isWord : GoodIn wsX5_readLine (wsV RX5 62 RX5 yX5_isWord wsX5_isWord) := goodIn_app (goodIn_of _ (by decide +kernel)) ggX5_readLine_X5_isWord
set_option maxRecDepth 20000 in
theorem ggX5_readLine_X5_takeFirstWord : GoodIn wsX5_readLine wsX5_takeFirstWord := goodIn_r _ [69, 70, 71, 72, 73, 4, 74, 75, 8, 76, 77, 78, 79, 80, 9, 7, 81, 6, 82, 83, 84, 62, 85, 64, 65, 59, 60, 61, 63, 86, 87, 88, 89, 90, 91, 92, 93, 94, 95, 128, 129, 130, 131, 132, 133, 134, 135, 136, 137, 138, 139] (by decide +kernel) (by decide +kernel)
set_option maxRecDepth 20000 in
theorem gX5_readLine_X5_takeFirstWord : GoodIn wsX5_readLine (wsV RX5 66 RX5 yX5_takeFirstWord wsX5_takeFirstWord) := goodIn_app (goodIn_of _ (by decide +kernel)) ggX5_readLine_X5_takeFirstWord
set_option maxRecDepth 20000 in
theorem ggX5_readLine_X5_takeNumber : GoodIn wsX5_readLine wsX5_takeNumber := goodIn_r _ [99, 6, 100, 94, 71, 72, 73, 4, 74, 75, 8, 76, 101, 102, 103, 104, 105, 106, 77, 78, 79, 80, 9, 7, 81, 82, 83, 84, 62, 85, 64, 65, 59, 60, 61, 63, 86, 87, 88, 89, 90, 91, 92, 93, 95, 128, 129, 130, 131, 132, 133, 134, 135, 136, 137, 140, 141, 138, 139] (by decide +kernel) (by decide +kernel)
set_option maxRecDepth 20000 in
theorem gX5_readLine_X5_takeNumber : GoodIn wsX5_readLine (wsV RX5 70 RX5 yX5_takeNumber wsX5_takeNumber) := goodIn_app (goodIn_of _ (by decide +kernel)) ggX5_readLine_X5_takeNumber
set_option maxRecDepth 20000 in
theorem ggX5_readLine_X5_takeTie : GoodIn wsX5_readLine wsX5_takeTie := goodIn_r _ [110, 100, 1, 2, 3, 4, 5, 6, 7, 8, 9, 10, 11, 12, 13, 14, 15, 16, 17, 18, 19, 20, 21, 22, 23, 24, 25, 26, 27, 28, 29, 30, 31, 32, 33, 34, 35, 36, 37, 38, 39, 40, 41, 42, 43, 44, 45, 46, 47, 48, 49, 50, 51, 52, 53, 54, 55, 56, 57, 58, 59, 60, 61, 62, 63, 64, 65, 71, 72, 73, 74, 75, 76, 101, 102, 103, 104, 105, 106, 77, 78, 79, 80, 81, 82, 83, 84, 85, 86, 87, 88, 89, 90, 91, 92, 93, 94, 95, 128, 129, 130, 131, 132, 133, 134, 135, 136, 137, 138, 139, 140, 141] (by decide +kernel) (by decide +kernel)
set_option maxRecDepth 20000 in
theorem gX5_readLine_X5_takeTie : GoodIn wsX5_readLine (wsV RX5 79 RX5 yX5_takeTie wsX5_takeTie) := goodIn_app (goodIn_of _ (by decide +kernel)) ggX5_readLine_X5_takeTie
set_option maxRecDepth 20000 in
theorem ggX5_readLine_X5_takeWord : GoodIn wsX5_readLine wsX5_takeWord := goodIn_r _ [114, 1, 2, 3, 4, 5, 6, 7, 8, 9, 10, 11, 12, 13, 14, 15, 16, 17, 18, 19, 20, 21, 22, 23, 24, 25, 26, 27, 28, 29, 30, 31, 32, 33, 34, 35, 36, 37, 38, 39, 40, 41, 42, 43, 44, 45, 46, 47, 48, 49, 50, 51, 52, 53, 54, 55, 56, 57, 58, 59, 60, 61, 62, 63, 64, 65, 71, 72, 73, 74, 75, 76, 77, 78, 79, 80, 81, 82, 83, 84, 85, 86, 87, 88, 89, 90, 91, 92, 93, 94, 95, 128, 129, 130, 131, 132, 133, 134, 135, 136, 137, 138, 139] (by decide +kernel) (by decide +kernel)
set_option maxRecDepth 20000 in
theorem gX5_readLine_X5_takeWord : GoodIn wsX5_readLine (wsV RX5 84 RX5 yX5_takeWord wsX5_takeWord) := goodIn_app (goodIn_of _ (by decide +kernel)) ggX5_readLine_X5_takeWord
set_option maxRecDepth 20000 in
theorem ggX5_readLine_X5_readSuit : GoodIn wsX5_readLine wsX5_readSuit := goodIn_r _ [118, 100, 119, 120, 121, 4, 122, 94, 6, 123, 71, 72, 73, 74, 75, 8, 76, 77, 78, 79, 80, 9, 7, 81, 82, 83, 84, 62, 85, 64, 65, 59, 60, 61, 63, 86, 87, 88, 89, 90, 91, 92, 93, 95, 111, 112, 113, 114, 1, 2, 3, 5, 10, 11, 12, 13, 14, 15, 16, 17, 18, 19, 20, 21, 22, 23, 24, 25, 26, 27, 28, 29, 30, 31, 32, 33, 34, 35, 36, 37, 38, 39, 40, 41, 42, 43, 44, 45, 46, 47, 48, 49, 50, 51, 52, 53, 54, 55, 56, 57, 58, 96, 97, 98, 99, 101, 102, 103, 104, 105, 106, 124, 125, 126, 127, 128, 129, 130, 131, 132, 133, 134, 135, 136, 137, 138, 139, 140, 141] (by decide +kernel) (by decide +kernel)
set_option maxRecDepth 20000 in
theorem gX5_readLine_X5_readSuit : GoodIn wsX5_readLine (wsV RX5 87 RX5 yX5_readSuit wsX5_readSuit) := goodIn_app (goodIn_of _ (by decide +kernel)) ggX5_readLine_X5_readSuit
theorem dX5_readLine_0 : decode cX5_readLine 0 = .ok (.aload_n 0, 1) := by decide +kernel
theorem dX5_readLine_1 : decode cX5_readLine 1 = .ok (.ldc 60, 2) := by decide +kernel
theorem dX5_readLine_3 : decode cX5_readLine 3 = .ok (.invokevirtual 62, 3) := by decide +kernel
theorem dX5_readLine_6 : decode cX5_readLine 6 = .ok (.ifCond .eq 25, 3) := by decide +kernel
theorem dX5_readLine_9 : decode cX5_readLine 9 = .ok (.aload_n 0, 1) := by decide +kernel
theorem dX5_readLine_10 : decode cX5_readLine 10 = .ok (.iconst 0, 1) := by decide +kernel
theorem dX5_readLine_11 : decode cX5_readLine 11 = .ok (.invokevirtual 66, 3) := by decide +kernel
theorem dX5_readLine_14 : decode cX5_readLine 14 = .ok (.ifCond .eq 15, 3) := by decide +kernel
theorem dX5_readLine_17 : decode cX5_readLine 17 = .ok (.aload_n 0, 1) := by decide +kernel
theorem dX5_readLine_18 : decode cX5_readLine 18 = .ok (.iconst 0, 1) := by decide +kernel
theorem dX5_readLine_19 : decode cX5_readLine 19 = .ok (.invokevirtual 70, 3) := by decide +kernel
theorem dX5_readLine_22 : decode cX5_readLine 22 = .ok (.ifCond .eq 7, 3) := by decide +kernel
theorem dX5_readLine_25 : decode cX5_readLine 25 = .ok (.iconst 1, 1) := by decide +kernel
theorem dX5_readLine_26 : decode cX5_readLine 26 = .ok (.goto 4, 3) := by decide +kernel
theorem dX5_readLine_29 : decode cX5_readLine 29 = .ok (.iconst 0, 1) := by decide +kernel
theorem dX5_readLine_30 : decode cX5_readLine 30 = .ok (.ireturn, 1) := by decide +kernel
theorem dX5_readLine_31 : decode cX5_readLine 31 = .ok (.aload_n 0, 1) := by decide +kernel
theorem dX5_readLine_32 : decode cX5_readLine 32 = .ok (.ldc 73, 2) := by decide +kernel
theorem dX5_readLine_34 : decode cX5_readLine 34 = .ok (.invokevirtual 62, 3) := by decide +kernel
theorem dX5_readLine_37 : decode cX5_readLine 37 = .ok (.ifCond .eq 25, 3) := by decide +kernel
theorem dX5_readLine_40 : decode cX5_readLine 40 = .ok (.aload_n 0, 1) := by decide +kernel
theorem dX5_readLine_41 : decode cX5_readLine 41 = .ok (.iconst 1, 1) := by decide +kernel
theorem dX5_readLine_42 : decode cX5_readLine 42 = .ok (.invokevirtual 66, 3) := by decide +kernel
theorem dX5_readLine_45 : decode cX5_readLine 45 = .ok (.ifCond .eq 15, 3) := by decide +kernel
theorem dX5_readLine_48 : decode cX5_readLine 48 = .ok (.aload_n 0, 1) := by decide +kernel
theorem dX5_readLine_49 : decode cX5_readLine 49 = .ok (.iconst 1, 1) := by decide +kernel
theorem dX5_readLine_50 : decode cX5_readLine 50 = .ok (.invokevirtual 70, 3) := by decide +kernel
theorem dX5_readLine_53 : decode cX5_readLine 53 = .ok (.ifCond .eq 7, 3) := by decide +kernel
theorem dX5_readLine_56 : decode cX5_readLine 56 = .ok (.iconst 1, 1) := by decide +kernel
theorem dX5_readLine_57 : decode cX5_readLine 57 = .ok (.goto 4, 3) := by decide +kernel
theorem dX5_readLine_60 : decode cX5_readLine 60 = .ok (.iconst 0, 1) := by decide +kernel
theorem dX5_readLine_61 : decode cX5_readLine 61 = .ok (.ireturn, 1) := by decide +kernel
theorem dX5_readLine_62 : decode cX5_readLine 62 = .ok (.aload_n 0, 1) := by decide +kernel
theorem dX5_readLine_63 : decode cX5_readLine 63 = .ok (.ldc 75, 2) := by decide +kernel
theorem dX5_readLine_65 : decode cX5_readLine 65 = .ok (.invokevirtual 62, 3) := by decide +kernel
theorem dX5_readLine_68 : decode cX5_readLine 68 = .ok (.ifCond .eq 25, 3) := by decide +kernel
theorem dX5_readLine_71 : decode cX5_readLine 71 = .ok (.aload_n 0, 1) := by decide +kernel
theorem dX5_readLine_72 : decode cX5_readLine 72 = .ok (.iconst 2, 1) := by decide +kernel
theorem dX5_readLine_73 : decode cX5_readLine 73 = .ok (.invokevirtual 66, 3) := by decide +kernel
theorem dX5_readLine_76 : decode cX5_readLine 76 = .ok (.ifCond .eq 15, 3) := by decide +kernel
theorem dX5_readLine_79 : decode cX5_readLine 79 = .ok (.aload_n 0, 1) := by decide +kernel
theorem dX5_readLine_80 : decode cX5_readLine 80 = .ok (.iconst 2, 1) := by decide +kernel
theorem dX5_readLine_81 : decode cX5_readLine 81 = .ok (.invokevirtual 70, 3) := by decide +kernel
theorem dX5_readLine_84 : decode cX5_readLine 84 = .ok (.ifCond .eq 7, 3) := by decide +kernel
theorem dX5_readLine_87 : decode cX5_readLine 87 = .ok (.iconst 1, 1) := by decide +kernel
theorem dX5_readLine_88 : decode cX5_readLine 88 = .ok (.goto 4, 3) := by decide +kernel
theorem dX5_readLine_91 : decode cX5_readLine 91 = .ok (.iconst 0, 1) := by decide +kernel
theorem dX5_readLine_92 : decode cX5_readLine 92 = .ok (.ireturn, 1) := by decide +kernel
theorem dX5_readLine_93 : decode cX5_readLine 93 = .ok (.aload_n 0, 1) := by decide +kernel
theorem dX5_readLine_94 : decode cX5_readLine 94 = .ok (.ldc 77, 2) := by decide +kernel
theorem dX5_readLine_96 : decode cX5_readLine 96 = .ok (.invokevirtual 62, 3) := by decide +kernel
theorem dX5_readLine_99 : decode cX5_readLine 99 = .ok (.ifCond .eq 24, 3) := by decide +kernel
theorem dX5_readLine_102 : decode cX5_readLine 102 = .ok (.aload_n 0, 1) := by decide +kernel
theorem dX5_readLine_103 : decode cX5_readLine 103 = .ok (.iconst 3, 1) := by decide +kernel
theorem dX5_readLine_104 : decode cX5_readLine 104 = .ok (.invokevirtual 66, 3) := by decide +kernel
theorem dX5_readLine_107 : decode cX5_readLine 107 = .ok (.ifCond .eq 14, 3) := by decide +kernel
theorem dX5_readLine_110 : decode cX5_readLine 110 = .ok (.aload_n 0, 1) := by decide +kernel
theorem dX5_readLine_111 : decode cX5_readLine 111 = .ok (.invokevirtual 79, 3) := by decide +kernel
theorem dX5_readLine_114 : decode cX5_readLine 114 = .ok (.ifCond .eq 7, 3) := by decide +kernel
theorem dX5_readLine_117 : decode cX5_readLine 117 = .ok (.iconst 1, 1) := by decide +kernel
theorem dX5_readLine_118 : decode cX5_readLine 118 = .ok (.goto 4, 3) := by decide +kernel
theorem dX5_readLine_121 : decode cX5_readLine 121 = .ok (.iconst 0, 1) := by decide +kernel
theorem dX5_readLine_122 : decode cX5_readLine 122 = .ok (.ireturn, 1) := by decide +kernel
theorem dX5_readLine_123 : decode cX5_readLine 123 = .ok (.aload_n 0, 1) := by decide +kernel
theorem dX5_readLine_124 : decode cX5_readLine 124 = .ok (.ldc 82, 2) := by decide +kernel
theorem dX5_readLine_126 : decode cX5_readLine 126 = .ok (.invokevirtual 84, 3) := by decide +kernel
theorem dX5_readLine_129 : decode cX5_readLine 129 = .ok (.ifCond .eq 14, 3) := by decide +kernel
theorem dX5_readLine_132 : decode cX5_readLine 132 = .ok (.aload_n 0, 1) := by decide +kernel
theorem dX5_readLine_133 : decode cX5_readLine 133 = .ok (.invokevirtual 87, 3) := by decide +kernel
theorem dX5_readLine_136 : decode cX5_readLine 136 = .ok (.ifCond .eq 7, 3) := by decide +kernel
theorem dX5_readLine_139 : decode cX5_readLine 139 = .ok (.iconst 1, 1) := by decide +kernel
theorem dX5_readLine_140 : decode cX5_readLine 140 = .ok (.goto 4, 3) := by decide +kernel
theorem dX5_readLine_143 : decode cX5_readLine 143 = .ok (.iconst 0, 1) := by decide +kernel
theorem dX5_readLine_144 : decode cX5_readLine 144 = .ok (.ireturn, 1) := by decide +kernel
set_option maxRecDepth 20000 in
theorem ggX5_readSuit_X5_takeKind : GoodIn wsX5_readSuit wsX5_takeKind := goodIn_r _ [6, 7, 8, 9, 10, 11, 12, 5, 13, 14, 15, 16, 17, 18, 19, 20, 21, 22, 23, 24, 25, 26, 27, 28, 29, 30, 31, 32, 33, 34, 35, 36, 37, 38, 39, 40, 41, 42, 43, 115, 116, 117, 118, 119, 120, 121, 122, 123, 124, 125, 126] (by decide +kernel) (by decide +kernel)
set_option maxRecDepth 20000 in
theorem gX5_readSuit_X5_takeKind : GoodIn wsX5_readSuit (wsV RX5 90 RX5 yX5_takeKind wsX5_takeKind) := goodIn_app (goodIn_of _ (by decide +kernel)) ggX5_readSuit_X5_takeKind
set_option maxRecDepth 20000 in
theorem ggX5_readSuit_X5_takeWord : GoodIn wsX5_readSuit wsX5_takeWord := goodIn_r _ [47, 48, 49, 50, 5, 51, 8, 22, 15, 21, 52, 53, 54, 55, 56, 57, 58, 59, 60, 61, 62, 63, 64, 65, 66, 67, 68, 69, 70, 71, 72, 73, 74, 75, 76, 77, 78, 79, 80, 81, 82, 83, 84, 85, 86, 87, 88, 89, 90, 91, 92, 93, 94, 95, 96, 97, 98, 99, 100, 31, 32, 33, 27, 34, 29, 30, 10, 11, 12, 13, 14, 16, 17, 18, 19, 20, 23, 24, 25, 26, 28, 35, 36, 37, 38, 39, 40, 41, 42, 7, 43, 115, 116, 117, 118, 119, 120, 121, 122, 123, 124, 125, 126] (by decide +kernel) (by decide +kernel)
set_option maxRecDepth 20000 in
theorem gX5_readSuit_X5_takeWord : GoodIn wsX5_readSuit (wsV RX5 84 RX5 yX5_takeWord wsX5_takeWord) := goodIn_app (goodIn_of _ (by decide +kernel)) ggX5_readSuit_X5_takeWord
set_option maxRecDepth 20000 in
theorem ggX5_readSuit_X5_takeNumber : GoodIn wsX5_readSuit wsX5_takeNumber := goodIn_r _ [104, 8, 1, 7, 10, 11, 12, 5, 13, 14, 15, 16, 105, 106, 107, 108, 109, 110, 17, 18, 19, 20, 21, 22, 23, 24, 25, 26, 27, 28, 29, 30, 31, 32, 33, 34, 35, 36, 37, 38, 39, 40, 41, 42, 43, 115, 116, 117, 118, 119, 120, 121, 122, 123, 124, 127, 128, 125, 126] (by decide +kernel) (by decide +kernel)
set_option maxRecDepth 20000 in
theorem gX5_readSuit_X5_takeNumber : GoodIn wsX5_readSuit (wsV RX5 70 RX5 yX5_takeNumber wsX5_takeNumber) := goodIn_app (goodIn_of _ (by decide +kernel)) ggX5_readSuit_X5_takeNumber
set_option maxRecDepth 20000 in
theorem ggX5_readSuit_X6_answer : GoodIn wsX5_readSuit wsX6_answer := goodIn_r _ [114, 110, 127, 128] (by decide +kernel) (by decide +kernel)
set_option maxRecDepth 20000 in
theorem gX5_readSuit_X6_answer : GoodIn wsX5_readSuit (wsV RX5 96 RX6 yX6_answer wsX6_answer) := goodIn_app (goodIn_of _ (by decide +kernel)) ggX5_readSuit_X6_answer
set_option maxRecDepth 20000 in
theorem ggX5_readSuit_X6_tell : GoodIn wsX5_readSuit wsX6_tell := goodIn_r _ [109, 110, 127, 128] (by decide +kernel) (by decide +kernel)
set_option maxRecDepth 20000 in
theorem gX5_readSuit_X6_tell : GoodIn wsX5_readSuit (wsV RX5 100 RX6 yX6_tell wsX6_tell) := goodIn_app (goodIn_of _ (by decide +kernel)) ggX5_readSuit_X6_tell
set_option maxRecDepth 20000 in
theorem ggX5_readSuit_X5_isWord : GoodIn wsX5_readSuit wsX5_isWord := goodIn_r _ [51, 8, 22, 15, 21, 52, 53, 54, 55, 56, 57, 58, 59, 60, 61, 62, 63, 64, 65, 66, 67, 68, 69, 70, 71, 72, 73, 74, 75, 76, 77, 78, 79, 80, 81, 82, 83, 84, 85, 86, 87, 88, 89, 90, 91, 92, 93, 94, 95, 96, 97, 98, 99, 100, 31, 32, 33, 27, 34, 29, 30, 115, 116, 117, 118, 119, 120, 121, 122, 123, 124, 125, 126] (by decide +kernel) (by decide +kernel)
set_option maxRecDepth 20000 in
theorem gX5_readSuit_X5_isWord : GoodIn wsX5_readSuit (wsV RX5 62 RX5 yX5_isWord wsX5_isWord) := goodIn_app (goodIn_of _ (by decide +kernel)) ggX5_readSuit_X5_isWord
set_option maxRecDepth 20000 in
theorem ggX5_readSuit_X5_advance : GoodIn wsX5_readSuit wsX5_advance := goodIn_r _ [20, 21, 22, 15, 23, 8, 24, 25, 26, 27, 28, 29, 30, 31, 32, 33, 34, 35, 36, 37, 38, 39, 40, 41, 5, 42, 7, 43, 115, 116, 117, 118, 119, 120, 121, 122, 123, 124, 125, 126] (by decide +kernel) (by decide +kernel)
set_option maxRecDepth 20000 in
theorem gX5_readSuit_X5_advance : GoodIn wsX5_readSuit (wsV RX5 36 RX5 yX5_advance wsX5_advance) := goodIn_app (goodIn_of _ (by decide +kernel)) ggX5_readSuit_X5_advance
theorem dX5_readSuit_0 : decode cX5_readSuit 0 = .ok (.aload_n 0, 1) := by decide +kernel
theorem dX5_readSuit_1 : decode cX5_readSuit 1 = .ok (.invokevirtual 90, 3) := by decide +kernel
theorem dX5_readSuit_4 : decode cX5_readSuit 4 = .ok (.istore_n 1, 1) := by decide +kernel
theorem dX5_readSuit_5 : decode cX5_readSuit 5 = .ok (.iload_n 1, 1) := by decide +kernel
theorem dX5_readSuit_6 : decode cX5_readSuit 6 = .ok (.iconst (-1), 1) := by decide +kernel
theorem dX5_readSuit_7 : decode cX5_readSuit 7 = .ok (.if_icmp .ne 5, 3) := by decide +kernel
theorem dX5_readSuit_10 : decode cX5_readSuit 10 = .ok (.iconst 0, 1) := by decide +kernel
theorem dX5_readSuit_11 : decode cX5_readSuit 11 = .ok (.ireturn, 1) := by decide +kernel
theorem dX5_readSuit_12 : decode cX5_readSuit 12 = .ok (.aload_n 0, 1) := by decide +kernel
theorem dX5_readSuit_13 : decode cX5_readSuit 13 = .ok (.ldc 94, 2) := by decide +kernel
theorem dX5_readSuit_15 : decode cX5_readSuit 15 = .ok (.invokevirtual 84, 3) := by decide +kernel
theorem dX5_readSuit_18 : decode cX5_readSuit 18 = .ok (.ifCond .eq 14, 3) := by decide +kernel
theorem dX5_readSuit_21 : decode cX5_readSuit 21 = .ok (.aload_n 0, 1) := by decide +kernel
theorem dX5_readSuit_22 : decode cX5_readSuit 22 = .ok (.bipush 10, 2) := by decide +kernel
theorem dX5_readSuit_24 : decode cX5_readSuit 24 = .ok (.iload_n 1, 1) := by decide +kernel
theorem dX5_readSuit_25 : decode cX5_readSuit 25 = .ok (.iadd, 1) := by decide +kernel
theorem dX5_readSuit_26 : decode cX5_readSuit 26 = .ok (.invokevirtual 70, 3) := by decide +kernel
theorem dX5_readSuit_29 : decode cX5_readSuit 29 = .ok (.ifCond .ne 5, 3) := by decide +kernel
theorem dX5_readSuit_32 : decode cX5_readSuit 32 = .ok (.iconst 0, 1) := by decide +kernel
theorem dX5_readSuit_33 : decode cX5_readSuit 33 = .ok (.ireturn, 1) := by decide +kernel
theorem dX5_readSuit_34 : decode cX5_readSuit 34 = .ok (.aload_n 0, 1) := by decide +kernel
theorem dX5_readSuit_35 : decode cX5_readSuit 35 = .ok (.getfield 12, 3) := by decide +kernel
theorem dX5_readSuit_38 : decode cX5_readSuit 38 = .ok (.bipush 30, 2) := by decide +kernel
theorem dX5_readSuit_40 : decode cX5_readSuit 40 = .ok (.iload_n 1, 1) := by decide +kernel
theorem dX5_readSuit_41 : decode cX5_readSuit 41 = .ok (.iadd, 1) := by decide +kernel
theorem dX5_readSuit_42 : decode cX5_readSuit 42 = .ok (.aload_n 0, 1) := by decide +kernel
theorem dX5_readSuit_43 : decode cX5_readSuit 43 = .ok (.getfield 12, 3) := by decide +kernel
theorem dX5_readSuit_46 : decode cX5_readSuit 46 = .ok (.bipush 10, 2) := by decide +kernel
theorem dX5_readSuit_48 : decode cX5_readSuit 48 = .ok (.iload_n 1, 1) := by decide +kernel
theorem dX5_readSuit_49 : decode cX5_readSuit 49 = .ok (.iadd, 1) := by decide +kernel
theorem dX5_readSuit_50 : decode cX5_readSuit 50 = .ok (.invokevirtual 96, 3) := by decide +kernel
theorem dX5_readSuit_53 : decode cX5_readSuit 53 = .ok (.invokevirtual 100, 3) := by decide +kernel
theorem dX5_readSuit_56 : decode cX5_readSuit 56 = .ok (.aload_n 0, 1) := by decide +kernel
theorem dX5_readSuit_57 : decode cX5_readSuit 57 = .ok (.ldc 104, 2) := by decide +kernel
theorem dX5_readSuit_59 : decode cX5_readSuit 59 = .ok (.invokevirtual 62, 3) := by decide +kernel
theorem dX5_readSuit_62 : decode cX5_readSuit 62 = .ok (.ifCond .eq 40, 3) := by decide +kernel
theorem dX5_readSuit_65 : decode cX5_readSuit 65 = .ok (.aload_n 0, 1) := by decide +kernel
theorem dX5_readSuit_66 : decode cX5_readSuit 66 = .ok (.invokevirtual 36, 3) := by decide +kernel
theorem dX5_readSuit_69 : decode cX5_readSuit 69 = .ok (.aload_n 0, 1) := by decide +kernel
theorem dX5_readSuit_70 : decode cX5_readSuit 70 = .ok (.bipush 20, 2) := by decide +kernel
theorem dX5_readSuit_72 : decode cX5_readSuit 72 = .ok (.iload_n 1, 1) := by decide +kernel
theorem dX5_readSuit_73 : decode cX5_readSuit 73 = .ok (.iadd, 1) := by decide +kernel
theorem dX5_readSuit_74 : decode cX5_readSuit 74 = .ok (.invokevirtual 70, 3) := by decide +kernel
theorem dX5_readSuit_77 : decode cX5_readSuit 77 = .ok (.ifCond .eq 23, 3) := by decide +kernel
theorem dX5_readSuit_80 : decode cX5_readSuit 80 = .ok (.aload_n 0, 1) := by decide +kernel
theorem dX5_readSuit_81 : decode cX5_readSuit 81 = .ok (.ldc 94, 2) := by decide +kernel
theorem dX5_readSuit_83 : decode cX5_readSuit 83 = .ok (.invokevirtual 84, 3) := by decide +kernel
theorem dX5_readSuit_86 : decode cX5_readSuit 86 = .ok (.ifCond .eq 14, 3) := by decide +kernel
theorem dX5_readSuit_89 : decode cX5_readSuit 89 = .ok (.aload_n 0, 1) := by decide +kernel
theorem dX5_readSuit_90 : decode cX5_readSuit 90 = .ok (.bipush 30, 2) := by decide +kernel
theorem dX5_readSuit_92 : decode cX5_readSuit 92 = .ok (.iload_n 1, 1) := by decide +kernel
theorem dX5_readSuit_93 : decode cX5_readSuit 93 = .ok (.iadd, 1) := by decide +kernel
theorem dX5_readSuit_94 : decode cX5_readSuit 94 = .ok (.invokevirtual 70, 3) := by decide +kernel
theorem dX5_readSuit_97 : decode cX5_readSuit 97 = .ok (.ifCond .ne 5, 3) := by decide +kernel
theorem dX5_readSuit_100 : decode cX5_readSuit 100 = .ok (.iconst 0, 1) := by decide +kernel
theorem dX5_readSuit_101 : decode cX5_readSuit 101 = .ok (.ireturn, 1) := by decide +kernel
theorem dX5_readSuit_102 : decode cX5_readSuit 102 = .ok (.aload_n 0, 1) := by decide +kernel
theorem dX5_readSuit_103 : decode cX5_readSuit 103 = .ok (.ldc 106, 2) := by decide +kernel
theorem dX5_readSuit_105 : decode cX5_readSuit 105 = .ok (.invokevirtual 84, 3) := by decide +kernel
theorem dX5_readSuit_108 : decode cX5_readSuit 108 = .ok (.ifCond .eq 18, 3) := by decide +kernel
theorem dX5_readSuit_111 : decode cX5_readSuit 111 = .ok (.aload_n 0, 1) := by decide +kernel
theorem dX5_readSuit_112 : decode cX5_readSuit 112 = .ok (.bipush 40, 2) := by decide +kernel
theorem dX5_readSuit_114 : decode cX5_readSuit 114 = .ok (.iload_n 1, 1) := by decide +kernel
theorem dX5_readSuit_115 : decode cX5_readSuit 115 = .ok (.iadd, 1) := by decide +kernel
theorem dX5_readSuit_116 : decode cX5_readSuit 116 = .ok (.invokevirtual 70, 3) := by decide +kernel
theorem dX5_readSuit_119 : decode cX5_readSuit 119 = .ok (.ifCond .eq 7, 3) := by decide +kernel
theorem dX5_readSuit_122 : decode cX5_readSuit 122 = .ok (.iconst 1, 1) := by decide +kernel
theorem dX5_readSuit_123 : decode cX5_readSuit 123 = .ok (.goto 4, 3) := by decide +kernel
theorem dX5_readSuit_126 : decode cX5_readSuit 126 = .ok (.iconst 0, 1) := by decide +kernel
theorem dX5_readSuit_127 : decode cX5_readSuit 127 = .ok (.ireturn, 1) := by decide +kernel
set_option maxRecDepth 20000 in
theorem ggX5_takeKind_X5_fail : GoodIn wsX5_takeKind wsX5_fail := goodIn_r _ [8, 9, 10, 11, 39, 40, 41, 42, 43, 44, 45, 46, 47, 48] (by decide +kernel) (by decide +kernel)
set_option maxRecDepth 20000 in
theorem gX5_takeKind_X5_fail : GoodIn wsX5_takeKind (wsV RX5 111 RX5 yX5_fail wsX5_fail) := goodIn_app (goodIn_of _ (by decide +kernel)) ggX5_takeKind_X5_fail
set_option maxRecDepth 20000 in
theorem ggX5_takeKind_X5_advance : GoodIn wsX5_takeKind wsX5_advance := goodIn_r _ [15, 16, 17, 10, 18, 2, 19, 20, 21, 22, 23, 24, 25, 26, 27, 28, 29, 30, 31, 32, 33, 34, 35, 36, 7, 37, 1, 38, 39, 40, 41, 42, 43, 44, 45, 46, 47, 48, 49, 50] (by decide +kernel) (by decide +kernel)
set_option maxRecDepth 20000 in
theorem gX5_takeKind_X5_advance : GoodIn wsX5_takeKind (wsV RX5 36 RX5 yX5_advance wsX5_advance) := goodIn_app (goodIn_of _ (by decide +kernel)) ggX5_takeKind_X5_advance
theorem dX5_takeKind_0 : decode cX5_takeKind 0 = .ok (.aload_n 0, 1) := by decide +kernel
theorem dX5_takeKind_1 : decode cX5_takeKind 1 = .ok (.getfield 108, 3) := by decide +kernel
theorem dX5_takeKind_4 : decode cX5_takeKind 4 = .ok (.istore_n 1, 1) := by decide +kernel
theorem dX5_takeKind_5 : decode cX5_takeKind 5 = .ok (.iconst 1, 1) := by decide +kernel
theorem dX5_takeKind_6 : decode cX5_takeKind 6 = .ok (.istore_n 2, 1) := by decide +kernel
theorem dX5_takeKind_7 : decode cX5_takeKind 7 = .ok (.aload_n 0, 1) := by decide +kernel
theorem dX5_takeKind_8 : decode cX5_takeKind 8 = .ok (.getfield 41, 3) := by decide +kernel
theorem dX5_takeKind_11 : decode cX5_takeKind 11 = .ok (.iconst 2, 1) := by decide +kernel
theorem dX5_takeKind_12 : decode cX5_takeKind 12 = .ok (.if_icmp .eq 12, 3) := by decide +kernel
theorem dX5_takeKind_15 : decode cX5_takeKind 15 = .ok (.aload_n 0, 1) := by decide +kernel
theorem dX5_takeKind_16 : decode cX5_takeKind 16 = .ok (.iconst 1, 1) := by decide +kernel
theorem dX5_takeKind_17 : decode cX5_takeKind 17 = .ok (.invokevirtual 111, 3) := by decide +kernel
theorem dX5_takeKind_20 : decode cX5_takeKind 20 = .ok (.istore_n 2, 1) := by decide +kernel
theorem dX5_takeKind_21 : decode cX5_takeKind 21 = .ok (.goto 51, 3) := by decide +kernel
theorem dX5_takeKind_24 : decode cX5_takeKind 24 = .ok (.iload_n 1, 1) := by decide +kernel
theorem dX5_takeKind_25 : decode cX5_takeKind 25 = .ok (.ifCond .lt 9, 3) := by decide +kernel
theorem dX5_takeKind_28 : decode cX5_takeKind 28 = .ok (.iload_n 1, 1) := by decide +kernel
theorem dX5_takeKind_29 : decode cX5_takeKind 29 = .ok (.bipush 6, 2) := by decide +kernel
theorem dX5_takeKind_31 : decode cX5_takeKind 31 = .ok (.if_icmp .lt 12, 3) := by decide +kernel
theorem dX5_takeKind_34 : decode cX5_takeKind 34 = .ok (.aload_n 0, 1) := by decide +kernel
theorem dX5_takeKind_35 : decode cX5_takeKind 35 = .ok (.iconst 2, 1) := by decide +kernel
theorem dX5_takeKind_36 : decode cX5_takeKind 36 = .ok (.invokevirtual 111, 3) := by decide +kernel
theorem dX5_takeKind_39 : decode cX5_takeKind 39 = .ok (.istore_n 2, 1) := by decide +kernel
theorem dX5_takeKind_40 : decode cX5_takeKind 40 = .ok (.goto 32, 3) := by decide +kernel
theorem dX5_takeKind_43 : decode cX5_takeKind 43 = .ok (.aload_n 0, 1) := by decide +kernel
theorem dX5_takeKind_44 : decode cX5_takeKind 44 = .ok (.getfield 22, 3) := by decide +kernel
theorem dX5_takeKind_47 : decode cX5_takeKind 47 = .ok (.iload_n 1, 1) := by decide +kernel
theorem dX5_takeKind_48 : decode cX5_takeKind 48 = .ok (.baload, 1) := by decide +kernel
theorem dX5_takeKind_49 : decode cX5_takeKind 49 = .ok (.ifCond .eq 12, 3) := by decide +kernel
theorem dX5_takeKind_52 : decode cX5_takeKind 52 = .ok (.aload_n 0, 1) := by decide +kernel
theorem dX5_takeKind_53 : decode cX5_takeKind 53 = .ok (.iconst 3, 1) := by decide +kernel
theorem dX5_takeKind_54 : decode cX5_takeKind 54 = .ok (.invokevirtual 111, 3) := by decide +kernel
theorem dX5_takeKind_57 : decode cX5_takeKind 57 = .ok (.istore_n 2, 1) := by decide +kernel
theorem dX5_takeKind_58 : decode cX5_takeKind 58 = .ok (.goto 14, 3) := by decide +kernel
theorem dX5_takeKind_61 : decode cX5_takeKind 61 = .ok (.aload_n 0, 1) := by decide +kernel
theorem dX5_takeKind_62 : decode cX5_takeKind 62 = .ok (.getfield 22, 3) := by decide +kernel
theorem dX5_takeKind_65 : decode cX5_takeKind 65 = .ok (.iload_n 1, 1) := by decide +kernel
theorem dX5_takeKind_66 : decode cX5_takeKind 66 = .ok (.iconst 1, 1) := by decide +kernel
theorem dX5_takeKind_67 : decode cX5_takeKind 67 = .ok (.bastore, 1) := by decide +kernel
theorem dX5_takeKind_68 : decode cX5_takeKind 68 = .ok (.aload_n 0, 1) := by decide +kernel
theorem dX5_takeKind_69 : decode cX5_takeKind 69 = .ok (.invokevirtual 36, 3) := by decide +kernel
theorem dX5_takeKind_72 : decode cX5_takeKind 72 = .ok (.iload_n 2, 1) := by decide +kernel
theorem dX5_takeKind_73 : decode cX5_takeKind 73 = .ok (.ifCond .eq 7, 3) := by decide +kernel
theorem dX5_takeKind_76 : decode cX5_takeKind 76 = .ok (.iload_n 1, 1) := by decide +kernel
theorem dX5_takeKind_77 : decode cX5_takeKind 77 = .ok (.goto 4, 3) := by decide +kernel
theorem dX5_takeKind_80 : decode cX5_takeKind 80 = .ok (.iconst (-1), 1) := by decide +kernel
theorem dX5_takeKind_81 : decode cX5_takeKind 81 = .ok (.ireturn, 1) := by decide +kernel
set_option maxRecDepth 20000 in
theorem ggX5_takeFirstWord_X5_fail : GoodIn wsX5_takeFirstWord wsX5_fail := goodIn_r _ [6, 7, 8, 9, 39, 40, 41, 42, 43, 44, 45, 46, 47, 48] (by decide +kernel) (by decide +kernel)
set_option maxRecDepth 20000 in
theorem gX5_takeFirstWord_X5_fail : GoodIn wsX5_takeFirstWord (wsV RX5 111 RX5 yX5_fail wsX5_fail) := goodIn_app (goodIn_of _ (by decide +kernel)) ggX5_takeFirstWord_X5_fail
set_option maxRecDepth 20000 in
theorem ggX5_takeFirstWord_X5_advance : GoodIn wsX5_takeFirstWord wsX5_advance := goodIn_r _ [13, 14, 15, 8, 16, 17, 18, 19, 20, 21, 22, 23, 24, 25, 26, 27, 28, 29, 30, 31, 32, 33, 34, 35, 5, 36, 37, 38, 39, 40, 41, 42, 43, 44, 45, 46, 47, 48, 49, 50] (by decide +kernel) (by decide +kernel)
set_option maxRecDepth 20000 in
theorem gX5_takeFirstWord_X5_advance : GoodIn wsX5_takeFirstWord (wsV RX5 36 RX5 yX5_advance wsX5_advance) := goodIn_app (goodIn_of _ (by decide +kernel)) ggX5_takeFirstWord_X5_advance
theorem dX5_takeFirstWord_0 : decode cX5_takeFirstWord 0 = .ok (.iload_n 1, 1) := by decide +kernel
theorem dX5_takeFirstWord_1 : decode cX5_takeFirstWord 1 = .ok (.ifCond .lt 21, 3) := by decide +kernel
theorem dX5_takeFirstWord_4 : decode cX5_takeFirstWord 4 = .ok (.iload_n 1, 1) := by decide +kernel
theorem dX5_takeFirstWord_5 : decode cX5_takeFirstWord 5 = .ok (.aload_n 0, 1) := by decide +kernel
theorem dX5_takeFirstWord_6 : decode cX5_takeFirstWord 6 = .ok (.getfield 18, 3) := by decide +kernel
theorem dX5_takeFirstWord_9 : decode cX5_takeFirstWord 9 = .ok (.arraylength, 1) := by decide +kernel
theorem dX5_takeFirstWord_10 : decode cX5_takeFirstWord 10 = .ok (.if_icmp .ge 12, 3) := by decide +kernel
theorem dX5_takeFirstWord_13 : decode cX5_takeFirstWord 13 = .ok (.aload_n 0, 1) := by decide +kernel
theorem dX5_takeFirstWord_14 : decode cX5_takeFirstWord 14 = .ok (.getfield 18, 3) := by decide +kernel
theorem dX5_takeFirstWord_17 : decode cX5_takeFirstWord 17 = .ok (.iload_n 1, 1) := by decide +kernel
theorem dX5_takeFirstWord_18 : decode cX5_takeFirstWord 18 = .ok (.baload, 1) := by decide +kernel
theorem dX5_takeFirstWord_19 : decode cX5_takeFirstWord 19 = .ok (.ifCond .eq 9, 3) := by decide +kernel
theorem dX5_takeFirstWord_22 : decode cX5_takeFirstWord 22 = .ok (.aload_n 0, 1) := by decide +kernel
theorem dX5_takeFirstWord_23 : decode cX5_takeFirstWord 23 = .ok (.iconst 3, 1) := by decide +kernel
theorem dX5_takeFirstWord_24 : decode cX5_takeFirstWord 24 = .ok (.invokevirtual 111, 3) := by decide +kernel
theorem dX5_takeFirstWord_27 : decode cX5_takeFirstWord 27 = .ok (.ireturn, 1) := by decide +kernel
theorem dX5_takeFirstWord_28 : decode cX5_takeFirstWord 28 = .ok (.aload_n 0, 1) := by decide +kernel
theorem dX5_takeFirstWord_29 : decode cX5_takeFirstWord 29 = .ok (.getfield 18, 3) := by decide +kernel
theorem dX5_takeFirstWord_32 : decode cX5_takeFirstWord 32 = .ok (.iload_n 1, 1) := by decide +kernel
theorem dX5_takeFirstWord_33 : decode cX5_takeFirstWord 33 = .ok (.iconst 1, 1) := by decide +kernel
theorem dX5_takeFirstWord_34 : decode cX5_takeFirstWord 34 = .ok (.bastore, 1) := by decide +kernel
theorem dX5_takeFirstWord_35 : decode cX5_takeFirstWord 35 = .ok (.aload_n 0, 1) := by decide +kernel
theorem dX5_takeFirstWord_36 : decode cX5_takeFirstWord 36 = .ok (.invokevirtual 36, 3) := by decide +kernel
theorem dX5_takeFirstWord_39 : decode cX5_takeFirstWord 39 = .ok (.iconst 1, 1) := by decide +kernel
theorem dX5_takeFirstWord_40 : decode cX5_takeFirstWord 40 = .ok (.ireturn, 1) := by decide +kernel
set_option maxRecDepth 20000 in
theorem ggX5_takeTie_X5_isWord : GoodIn wsX5_takeTie wsX5_isWord := goodIn_r _ [6, 7, 8, 9, 10, 11, 12, 13, 14, 15, 16, 17, 18, 19, 20, 21, 22, 23, 24, 25, 26, 27, 28, 29, 30, 31, 32, 33, 34, 35, 36, 37, 38, 39, 40, 41, 42, 43, 44, 45, 46, 47, 48, 49, 50, 51, 52, 53, 54, 55, 56, 57, 58, 59, 60, 61, 62, 63, 64, 65, 66, 98, 99, 100, 101, 102, 103, 104, 105, 106, 107, 108, 109] (by decide +kernel) (by decide +kernel)
set_option maxRecDepth 20000 in
theorem gX5_takeTie_X5_isWord : GoodIn wsX5_takeTie (wsV RX5 62 RX5 yX5_isWord wsX5_isWord) := goodIn_app (goodIn_of _ (by decide +kernel)) ggX5_takeTie_X5_isWord
set_option maxRecDepth 20000 in
theorem ggX5_takeTie_X5_fail : GoodIn wsX5_takeTie wsX5_fail := goodIn_r _ [70, 71, 9, 72, 98, 99, 100, 101, 102, 103, 104, 105, 106, 107] (by decide +kernel) (by decide +kernel)
set_option maxRecDepth 20000 in
theorem gX5_takeTie_X5_fail : GoodIn wsX5_takeTie (wsV RX5 111 RX5 yX5_fail wsX5_fail) := goodIn_app (goodIn_of _ (by decide +kernel)) ggX5_takeTie_X5_fail
set_option maxRecDepth 20000 in
theorem ggX5_takeTie_X6_tell : GoodIn wsX5_takeTie wsX6_tell := goodIn_r _ [77, 78, 110, 111] (by decide +kernel) (by decide +kernel)
set_option maxRecDepth 20000 in
theorem gX5_takeTie_X6_tell : GoodIn wsX5_takeTie (wsV RX5 100 RX6 yX6_tell wsX6_tell) := goodIn_app (goodIn_of _ (by decide +kernel)) ggX5_takeTie_X6_tell
set_option maxRecDepth 20000 in
theorem ggX5_takeTie_X5_advance : GoodIn wsX5_takeTie wsX5_advance := goodIn_r _ [82, 10, 8, 9, 83, 7, 84, 85, 86, 63, 87, 65, 66, 60, 61, 62, 64, 88, 89, 90, 91, 92, 93, 94, 5, 95, 96, 97, 98, 99, 100, 101, 102, 103, 104, 105, 106, 107, 108, 109] (by decide +kernel) (by decide +kernel)
set_option maxRecDepth 20000 in
theorem gX5_takeTie_X5_advance : GoodIn wsX5_takeTie (wsV RX5 36 RX5 yX5_advance wsX5_advance) := goodIn_app (goodIn_of _ (by decide +kernel)) ggX5_takeTie_X5_advance
theorem dX5_takeTie_0 : decode cX5_takeTie 0 = .ok (.aload_n 0, 1) := by decide +kernel
theorem dX5_takeTie_1 : decode cX5_takeTie 1 = .ok (.ldc 114, 2) := by decide +kernel
theorem dX5_takeTie_3 : decode cX5_takeTie 3 = .ok (.invokevirtual 62, 3) := by decide +kernel
theorem dX5_takeTie_6 : decode cX5_takeTie 6 = .ok (.istore_n 1, 1) := by decide +kernel
theorem dX5_takeTie_7 : decode cX5_takeTie 7 = .ok (.iload_n 1, 1) := by decide +kernel
theorem dX5_takeTie_8 : decode cX5_takeTie 8 = .ok (.ifCond .ne 18, 3) := by decide +kernel
theorem dX5_takeTie_11 : decode cX5_takeTie 11 = .ok (.aload_n 0, 1) := by decide +kernel
theorem dX5_takeTie_12 : decode cX5_takeTie 12 = .ok (.ldc 116, 2) := by decide +kernel
theorem dX5_takeTie_14 : decode cX5_takeTie 14 = .ok (.invokevirtual 62, 3) := by decide +kernel
theorem dX5_takeTie_17 : decode cX5_takeTie 17 = .ok (.ifCond .ne 9, 3) := by decide +kernel
theorem dX5_takeTie_20 : decode cX5_takeTie 20 = .ok (.aload_n 0, 1) := by decide +kernel
theorem dX5_takeTie_21 : decode cX5_takeTie 21 = .ok (.iconst 1, 1) := by decide +kernel
theorem dX5_takeTie_22 : decode cX5_takeTie 22 = .ok (.invokevirtual 111, 3) := by decide +kernel
theorem dX5_takeTie_25 : decode cX5_takeTie 25 = .ok (.ireturn, 1) := by decide +kernel
theorem dX5_takeTie_26 : decode cX5_takeTie 26 = .ok (.aload_n 0, 1) := by decide +kernel
theorem dX5_takeTie_27 : decode cX5_takeTie 27 = .ok (.getfield 12, 3) := by decide +kernel
theorem dX5_takeTie_30 : decode cX5_takeTie 30 = .ok (.iconst 3, 1) := by decide +kernel
theorem dX5_takeTie_31 : decode cX5_takeTie 31 = .ok (.iload_n 1, 1) := by decide +kernel
theorem dX5_takeTie_32 : decode cX5_takeTie 32 = .ok (.ifCond .eq 7, 3) := by decide +kernel
theorem dX5_takeTie_35 : decode cX5_takeTie 35 = .ok (.iconst 1, 1) := by decide +kernel
theorem dX5_takeTie_36 : decode cX5_takeTie 36 = .ok (.goto 4, 3) := by decide +kernel
theorem dX5_takeTie_39 : decode cX5_takeTie 39 = .ok (.iconst 0, 1) := by decide +kernel
theorem dX5_takeTie_40 : decode cX5_takeTie 40 = .ok (.invokevirtual 100, 3) := by decide +kernel
theorem dX5_takeTie_43 : decode cX5_takeTie 43 = .ok (.aload_n 0, 1) := by decide +kernel
theorem dX5_takeTie_44 : decode cX5_takeTie 44 = .ok (.invokevirtual 36, 3) := by decide +kernel
theorem dX5_takeTie_47 : decode cX5_takeTie 47 = .ok (.iconst 1, 1) := by decide +kernel
theorem dX5_takeTie_48 : decode cX5_takeTie 48 = .ok (.ireturn, 1) := by decide +kernel
set_option maxRecDepth 20000 in
theorem ggX5_takeWord_X5_isWord : GoodIn wsX5_takeWord wsX5_isWord := goodIn_r _ [5, 6, 7, 8, 9, 10, 11, 12, 13, 14, 15, 16, 17, 18, 19, 20, 21, 22, 23, 24, 25, 26, 27, 28, 29, 30, 31, 32, 33, 34, 35, 36, 37, 38, 39, 40, 41, 42, 43, 44, 45, 46, 47, 48, 49, 50, 51, 52, 53, 54, 55, 56, 57, 58, 59, 60, 61, 62, 63, 64, 65, 91, 92, 93, 94, 95, 96, 97, 98, 99, 100, 101, 102] (by decide +kernel) (by decide +kernel)
set_option maxRecDepth 20000 in
theorem gX5_takeWord_X5_isWord : GoodIn wsX5_takeWord (wsV RX5 62 RX5 yX5_isWord wsX5_isWord) := goodIn_app (goodIn_of _ (by decide +kernel)) ggX5_takeWord_X5_isWord
set_option maxRecDepth 20000 in
theorem ggX5_takeWord_X5_fail : GoodIn wsX5_takeWord wsX5_fail := goodIn_r _ [69, 70, 8, 71, 91, 92, 93, 94, 95, 96, 97, 98, 99, 100] (by decide +kernel) (by decide +kernel)
set_option maxRecDepth 20000 in
theorem gX5_takeWord_X5_fail : GoodIn wsX5_takeWord (wsV RX5 111 RX5 yX5_fail wsX5_fail) := goodIn_app (goodIn_of _ (by decide +kernel)) ggX5_takeWord_X5_fail
set_option maxRecDepth 20000 in
theorem ggX5_takeWord_X5_advance : GoodIn wsX5_takeWord wsX5_advance := goodIn_r _ [75, 9, 7, 8, 76, 6, 77, 78, 79, 62, 80, 64, 65, 59, 60, 61, 63, 81, 82, 83, 84, 85, 86, 87, 4, 88, 89, 90, 91, 92, 93, 94, 95, 96, 97, 98, 99, 100, 101, 102] (by decide +kernel) (by decide +kernel)
set_option maxRecDepth 20000 in
theorem gX5_takeWord_X5_advance : GoodIn wsX5_takeWord (wsV RX5 36 RX5 yX5_advance wsX5_advance) := goodIn_app (goodIn_of _ (by decide +kernel)) ggX5_takeWord_X5_advance
theorem dX5_takeWord_0 : decode cX5_takeWord 0 = .ok (.aload_n 0, 1) := by decide +kernel
theorem dX5_takeWord_1 : decode cX5_takeWord 1 = .ok (.aload_n 1, 1) := by decide +kernel
theorem dX5_takeWord_2 : decode cX5_takeWord 2 = .ok (.invokevirtual 62, 3) := by decide +kernel
theorem dX5_takeWord_5 : decode cX5_takeWord 5 = .ok (.ifCond .ne 9, 3) := by decide +kernel
theorem dX5_takeWord_8 : decode cX5_takeWord 8 = .ok (.aload_n 0, 1) := by decide +kernel
theorem dX5_takeWord_9 : decode cX5_takeWord 9 = .ok (.iconst 1, 1) := by decide +kernel
theorem dX5_takeWord_10 : decode cX5_takeWord 10 = .ok (.invokevirtual 111, 3) := by decide +kernel
theorem dX5_takeWord_13 : decode cX5_takeWord 13 = .ok (.ireturn, 1) := by decide +kernel
theorem dX5_takeWord_14 : decode cX5_takeWord 14 = .ok (.aload_n 0, 1) := by decide +kernel
theorem dX5_takeWord_15 : decode cX5_takeWord 15 = .ok (.invokevirtual 36, 3) := by decide +kernel
theorem dX5_takeWord_18 : decode cX5_takeWord 18 = .ok (.iconst 1, 1) := by decide +kernel
theorem dX5_takeWord_19 : decode cX5_takeWord 19 = .ok (.ireturn, 1) := by decide +kernel
set_option maxRecDepth 20000 in
theorem ggX5_takeNumber_X5_fail : GoodIn wsX5_takeNumber wsX5_fail := goodIn_r _ [8, 9, 10, 11, 45, 46, 47, 48, 49, 50, 51, 52, 53, 54] (by decide +kernel) (by decide +kernel)
set_option maxRecDepth 20000 in
theorem gX5_takeNumber_X5_fail : GoodIn wsX5_takeNumber (wsV RX5 111 RX5 yX5_fail wsX5_fail) := goodIn_app (goodIn_of _ (by decide +kernel)) ggX5_takeNumber_X5_fail
set_option maxRecDepth 20000 in
theorem ggX5_takeNumber_X6_tell : GoodIn wsX5_takeNumber wsX6_tell := goodIn_r _ [16, 17, 55, 56] (by decide +kernel) (by decide +kernel)
set_option maxRecDepth 20000 in
theorem gX5_takeNumber_X6_tell : GoodIn wsX5_takeNumber (wsV RX5 100 RX6 yX6_tell wsX6_tell) := goodIn_app (goodIn_of _ (by decide +kernel)) ggX5_takeNumber_X6_tell
set_option maxRecDepth 20000 in
theorem ggX5_takeNumber_X5_advance : GoodIn wsX5_takeNumber wsX5_advance := goodIn_r _ [21, 22, 23, 10, 24, 1, 25, 26, 27, 28, 29, 30, 31, 32, 33, 34, 35, 36, 37, 38, 39, 40, 41, 42, 7, 43, 3, 44, 45, 46, 47, 48, 49, 50, 51, 52, 53, 54, 57, 58] (by decide +kernel) (by decide +kernel)
set_option maxRecDepth 20000 in
theorem gX5_takeNumber_X5_advance : GoodIn wsX5_takeNumber (wsV RX5 36 RX5 yX5_advance wsX5_advance) := goodIn_app (goodIn_of _ (by decide +kernel)) ggX5_takeNumber_X5_advance
theorem dX5_takeNumber_0 : decode cX5_takeNumber 0 = .ok (.aload_n 0, 1) := by decide +kernel
theorem dX5_takeNumber_1 : decode cX5_takeNumber 1 = .ok (.getfield 41, 3) := by decide +kernel
theorem dX5_takeNumber_4 : decode cX5_takeNumber 4 = .ok (.iconst 2, 1) := by decide +kernel
theorem dX5_takeNumber_5 : decode cX5_takeNumber 5 = .ok (.if_icmp .eq 9, 3) := by decide +kernel
theorem dX5_takeNumber_8 : decode cX5_takeNumber 8 = .ok (.aload_n 0, 1) := by decide +kernel
theorem dX5_takeNumber_9 : decode cX5_takeNumber 9 = .ok (.iconst 1, 1) := by decide +kernel
theorem dX5_takeNumber_10 : decode cX5_takeNumber 10 = .ok (.invokevirtual 111, 3) := by decide +kernel
theorem dX5_takeNumber_13 : decode cX5_takeNumber 13 = .ok (.ireturn, 1) := by decide +kernel
theorem dX5_takeNumber_14 : decode cX5_takeNumber 14 = .ok (.aload_n 0, 1) := by decide +kernel
theorem dX5_takeNumber_15 : decode cX5_takeNumber 15 = .ok (.getfield 12, 3) := by decide +kernel
theorem dX5_takeNumber_18 : decode cX5_takeNumber 18 = .ok (.iload_n 1, 1) := by decide +kernel
theorem dX5_takeNumber_19 : decode cX5_takeNumber 19 = .ok (.aload_n 0, 1) := by decide +kernel
theorem dX5_takeNumber_20 : decode cX5_takeNumber 20 = .ok (.getfield 108, 3) := by decide +kernel
theorem dX5_takeNumber_23 : decode cX5_takeNumber 23 = .ok (.invokevirtual 100, 3) := by decide +kernel
theorem dX5_takeNumber_26 : decode cX5_takeNumber 26 = .ok (.aload_n 0, 1) := by decide +kernel
theorem dX5_takeNumber_27 : decode cX5_takeNumber 27 = .ok (.invokevirtual 36, 3) := by decide +kernel
theorem dX5_takeNumber_30 : decode cX5_takeNumber 30 = .ok (.iconst 1, 1) := by decide +kernel
theorem dX5_takeNumber_31 : decode cX5_takeNumber 31 = .ok (.ireturn, 1) := by decide +kernel
set_option maxRecDepth 20000 in
theorem ggX5_takeSemicolon_X5_fail : GoodIn wsX5_takeSemicolon wsX5_fail := goodIn_r _ [6, 7, 8, 9, 38, 39, 40, 41, 42, 43, 44, 45, 46, 47] (by decide +kernel) (by decide +kernel)
set_option maxRecDepth 20000 in
theorem gX5_takeSemicolon_X5_fail : GoodIn wsX5_takeSemicolon (wsV RX5 111 RX5 yX5_fail wsX5_fail) := goodIn_app (goodIn_of _ (by decide +kernel)) ggX5_takeSemicolon_X5_fail
set_option maxRecDepth 20000 in
theorem ggX5_takeSemicolon_X5_advance : GoodIn wsX5_takeSemicolon wsX5_advance := goodIn_r _ [13, 14, 15, 8, 16, 1, 17, 18, 19, 20, 21, 22, 23, 24, 25, 26, 27, 28, 29, 30, 31, 32, 33, 34, 5, 35, 36, 37, 38, 39, 40, 41, 42, 43, 44, 45, 46, 47, 48, 49] (by decide +kernel) (by decide +kernel)
set_option maxRecDepth 20000 in
theorem gX5_takeSemicolon_X5_advance : GoodIn wsX5_takeSemicolon (wsV RX5 36 RX5 yX5_advance wsX5_advance) := goodIn_app (goodIn_of _ (by decide +kernel)) ggX5_takeSemicolon_X5_advance
theorem dX5_takeSemicolon_0 : decode cX5_takeSemicolon 0 = .ok (.aload_n 0, 1) := by decide +kernel
theorem dX5_takeSemicolon_1 : decode cX5_takeSemicolon 1 = .ok (.getfield 41, 3) := by decide +kernel
theorem dX5_takeSemicolon_4 : decode cX5_takeSemicolon 4 = .ok (.iconst 3, 1) := by decide +kernel
theorem dX5_takeSemicolon_5 : decode cX5_takeSemicolon 5 = .ok (.if_icmp .eq 9, 3) := by decide +kernel
theorem dX5_takeSemicolon_8 : decode cX5_takeSemicolon 8 = .ok (.aload_n 0, 1) := by decide +kernel
theorem dX5_takeSemicolon_9 : decode cX5_takeSemicolon 9 = .ok (.iconst 1, 1) := by decide +kernel
theorem dX5_takeSemicolon_10 : decode cX5_takeSemicolon 10 = .ok (.invokevirtual 111, 3) := by decide +kernel
theorem dX5_takeSemicolon_13 : decode cX5_takeSemicolon 13 = .ok (.ireturn, 1) := by decide +kernel
theorem dX5_takeSemicolon_14 : decode cX5_takeSemicolon 14 = .ok (.aload_n 0, 1) := by decide +kernel
theorem dX5_takeSemicolon_15 : decode cX5_takeSemicolon 15 = .ok (.invokevirtual 36, 3) := by decide +kernel
theorem dX5_takeSemicolon_18 : decode cX5_takeSemicolon 18 = .ok (.iconst 1, 1) := by decide +kernel
theorem dX5_takeSemicolon_19 : decode cX5_takeSemicolon 19 = .ok (.ireturn, 1) := by decide +kernel
theorem dX5_fail_0 : decode cX5_fail 0 = .ok (.aload_n 0, 1) := by decide +kernel
theorem dX5_fail_1 : decode cX5_fail 1 = .ok (.iload_n 1, 1) := by decide +kernel
theorem dX5_fail_2 : decode cX5_fail 2 = .ok (.putfield 54, 3) := by decide +kernel
theorem dX5_fail_5 : decode cX5_fail 5 = .ok (.aload_n 0, 1) := by decide +kernel
theorem dX5_fail_6 : decode cX5_fail 6 = .ok (.aload_n 0, 1) := by decide +kernel
theorem dX5_fail_7 : decode cX5_fail 7 = .ok (.getfield 118, 3) := by decide +kernel
theorem dX5_fail_10 : decode cX5_fail 10 = .ok (.putfield 29, 3) := by decide +kernel
theorem dX5_fail_13 : decode cX5_fail 13 = .ok (.iconst 0, 1) := by decide +kernel
theorem dX5_fail_14 : decode cX5_fail 14 = .ok (.ireturn, 1) := by decide +kernel
set_option maxRecDepth 20000 in
theorem ggX5_isWord_J0_length_8abf5 : GoodIn wsX5_isWord wsJ0_length_8abf5 := goodIn_r _ [9, 10, 11, 12, 13, 8, 14, 15, 16] (by decide +kernel) (by decide +kernel)
set_option maxRecDepth 20000 in
theorem gX5_isWord_J0_length_8abf5 : GoodIn wsX5_isWord (wsV RX5 121 RJ0 yJ0_length_8abf5 wsJ0_length_8abf5) := goodIn_app (goodIn_of _ (by decide +kernel)) ggX5_isWord_J0_length_8abf5
set_option maxRecDepth 20000 in
theorem ggX5_isWord_J0_charAt_5068e : GoodIn wsX5_isWord wsJ0_charAt_5068e := goodIn_r _ [20, 10, 21, 22, 23, 8, 24, 15, 16, 25, 26, 27, 28, 29, 30, 31, 32, 33, 34, 35, 36, 37, 38, 39, 40, 41, 42, 43, 44, 45, 46, 47, 48, 49, 50, 51, 52, 53] (by decide +kernel) (by decide +kernel)
set_option maxRecDepth 20000 in
theorem gX5_isWord_J0_charAt_5068e : GoodIn wsX5_isWord (wsV RX5 126 RJ0 yJ0_charAt_5068e wsJ0_charAt_5068e) := goodIn_app (goodIn_of _ (by decide +kernel)) ggX5_isWord_J0_charAt_5068e
set_option maxRecDepth 20000 in
theorem ggX5_isWord_X8_isWithin : GoodIn wsX5_isWord wsX8_isWithin := goodIn_r _ [58, 59, 60, 71, 72] (by decide +kernel) (by decide +kernel)
set_option maxRecDepth 20000 in
theorem gX5_isWord_X8_isWithin : GoodIn wsX5_isWord (wsV RX5 130 RX8 yX8_isWithin wsX8_isWithin) := goodIn_app (goodIn_of _ (by decide +kernel)) ggX5_isWord_X8_isWithin
theorem dX5_isWord_0 : decode cX5_isWord 0 = .ok (.aload_n 0, 1) := by decide +kernel
theorem dX5_isWord_1 : decode cX5_isWord 1 = .ok (.getfield 41, 3) := by decide +kernel
theorem dX5_isWord_4 : decode cX5_isWord 4 = .ok (.iconst 1, 1) := by decide +kernel
theorem dX5_isWord_5 : decode cX5_isWord 5 = .ok (.if_icmp .ne 19, 3) := by decide +kernel
theorem dX5_isWord_8 : decode cX5_isWord 8 = .ok (.aload_n 0, 1) := by decide +kernel
theorem dX5_isWord_9 : decode cX5_isWord 9 = .ok (.getfield 57, 3) := by decide +kernel
theorem dX5_isWord_12 : decode cX5_isWord 12 = .ok (.aload_n 0, 1) := by decide +kernel
theorem dX5_isWord_13 : decode cX5_isWord 13 = .ok (.getfield 118, 3) := by decide +kernel
theorem dX5_isWord_16 : decode cX5_isWord 16 = .ok (.isub, 1) := by decide +kernel
theorem dX5_isWord_17 : decode cX5_isWord 17 = .ok (.aload_n 1, 1) := by decide +kernel
theorem dX5_isWord_18 : decode cX5_isWord 18 = .ok (.invokevirtual 121, 3) := by decide +kernel
theorem dX5_isWord_21 : decode cX5_isWord 21 = .ok (.if_icmp .eq 5, 3) := by decide +kernel
theorem dX5_isWord_24 : decode cX5_isWord 24 = .ok (.iconst 0, 1) := by decide +kernel
theorem dX5_isWord_25 : decode cX5_isWord 25 = .ok (.ireturn, 1) := by decide +kernel
theorem dX5_isWord_26 : decode cX5_isWord 26 = .ok (.iconst 0, 1) := by decide +kernel
theorem dX5_isWord_27 : decode cX5_isWord 27 = .ok (.istore_n 2, 1) := by decide +kernel
theorem dX5_isWord_28 : decode cX5_isWord 28 = .ok (.iload_n 2, 1) := by decide +kernel
theorem dX5_isWord_29 : decode cX5_isWord 29 = .ok (.aload_n 1, 1) := by decide +kernel
theorem dX5_isWord_30 : decode cX5_isWord 30 = .ok (.invokevirtual 121, 3) := by decide +kernel
theorem dX5_isWord_33 : decode cX5_isWord 33 = .ok (.if_icmp .ge 37, 3) := by decide +kernel
theorem dX5_isWord_36 : decode cX5_isWord 36 = .ok (.aload_n 0, 1) := by decide +kernel
theorem dX5_isWord_37 : decode cX5_isWord 37 = .ok (.getfield 25, 3) := by decide +kernel
theorem dX5_isWord_40 : decode cX5_isWord 40 = .ok (.aload_n 0, 1) := by decide +kernel
theorem dX5_isWord_41 : decode cX5_isWord 41 = .ok (.getfield 118, 3) := by decide +kernel
theorem dX5_isWord_44 : decode cX5_isWord 44 = .ok (.iload_n 2, 1) := by decide +kernel
theorem dX5_isWord_45 : decode cX5_isWord 45 = .ok (.iadd, 1) := by decide +kernel
theorem dX5_isWord_46 : decode cX5_isWord 46 = .ok (.aload_n 1, 1) := by decide +kernel
theorem dX5_isWord_47 : decode cX5_isWord 47 = .ok (.iload_n 2, 1) := by decide +kernel
theorem dX5_isWord_48 : decode cX5_isWord 48 = .ok (.invokevirtual 126, 3) := by decide +kernel
theorem dX5_isWord_51 : decode cX5_isWord 51 = .ok (.aload_n 1, 1) := by decide +kernel
theorem dX5_isWord_52 : decode cX5_isWord 52 = .ok (.iload_n 2, 1) := by decide +kernel
theorem dX5_isWord_53 : decode cX5_isWord 53 = .ok (.invokevirtual 126, 3) := by decide +kernel
theorem dX5_isWord_56 : decode cX5_isWord 56 = .ok (.invokevirtual 130, 3) := by decide +kernel
theorem dX5_isWord_59 : decode cX5_isWord 59 = .ok (.ifCond .ne 5, 3) := by decide +kernel
theorem dX5_isWord_62 : decode cX5_isWord 62 = .ok (.iconst 0, 1) := by decide +kernel
theorem dX5_isWord_63 : decode cX5_isWord 63 = .ok (.ireturn, 1) := by decide +kernel
theorem dX5_isWord_64 : decode cX5_isWord 64 = .ok (.iinc 2 1, 3) := by decide +kernel
theorem dX5_isWord_67 : decode cX5_isWord 67 = .ok (.goto (-39), 3) := by decide +kernel
theorem dX5_isWord_70 : decode cX5_isWord 70 = .ok (.iconst 1, 1) := by decide +kernel
theorem dX5_isWord_71 : decode cX5_isWord 71 = .ok (.ireturn, 1) := by decide +kernel
set_option maxRecDepth 20000 in
theorem ggX5_advance_X8_endOfBlanks : GoodIn wsX5_advance wsX8_endOfBlanks := goodIn_r _ [10, 11, 12, 38, 39] (by decide +kernel) (by decide +kernel)
set_option maxRecDepth 20000 in
theorem gX5_advance_X8_endOfBlanks : GoodIn wsX5_advance (wsV RX5 134 RX8 yX8_endOfBlanks wsX8_endOfBlanks) := goodIn_app (goodIn_of _ (by decide +kernel)) ggX5_advance_X8_endOfBlanks
set_option maxRecDepth 20000 in
theorem ggX5_advance_X8_isWithin : GoodIn wsX5_advance wsX8_isWithin := goodIn_r _ [16, 11, 12, 38, 39] (by decide +kernel) (by decide +kernel)
set_option maxRecDepth 20000 in
theorem gX5_advance_X8_isWithin : GoodIn wsX5_advance (wsV RX5 130 RX8 yX8_isWithin wsX8_isWithin) := goodIn_app (goodIn_of _ (by decide +kernel)) ggX5_advance_X8_isWithin
set_option maxRecDepth 20000 in
theorem ggX5_advance_X8_endOfRun : GoodIn wsX5_advance wsX8_endOfRun := goodIn_r _ [20, 11, 12, 38, 39] (by decide +kernel) (by decide +kernel)
set_option maxRecDepth 20000 in
theorem gX5_advance_X8_endOfRun : GoodIn wsX5_advance (wsV RX5 140 RX8 yX8_endOfRun wsX8_endOfRun) := goodIn_app (goodIn_of _ (by decide +kernel)) ggX5_advance_X8_endOfRun
set_option maxRecDepth 20000 in
theorem ggX5_advance_X5_readDigits : GoodIn wsX5_advance wsX5_readDigits := goodIn_r _ [25, 26, 2, 3, 1, 27, 28, 29, 30, 31, 32, 33, 34, 35, 36, 37, 38, 39] (by decide +kernel) (by decide +kernel)
set_option maxRecDepth 20000 in
theorem gX5_advance_X5_readDigits : GoodIn wsX5_advance (wsV RX5 144 RX5 yX5_readDigits wsX5_readDigits) := goodIn_app (goodIn_of _ (by decide +kernel)) ggX5_advance_X5_readDigits
theorem dX5_advance_0 : decode cX5_advance 0 = .ok (.aload_n 0, 1) := by decide +kernel
theorem dX5_advance_1 : decode cX5_advance 1 = .ok (.aload_n 0, 1) := by decide +kernel
theorem dX5_advance_2 : decode cX5_advance 2 = .ok (.getfield 25, 3) := by decide +kernel
theorem dX5_advance_5 : decode cX5_advance 5 = .ok (.aload_n 0, 1) := by decide +kernel
theorem dX5_advance_6 : decode cX5_advance 6 = .ok (.getfield 57, 3) := by decide +kernel
theorem dX5_advance_9 : decode cX5_advance 9 = .ok (.invokevirtual 134, 3) := by decide +kernel
theorem dX5_advance_12 : decode cX5_advance 12 = .ok (.putfield 118, 3) := by decide +kernel
theorem dX5_advance_15 : decode cX5_advance 15 = .ok (.aload_n 0, 1) := by decide +kernel
theorem dX5_advance_16 : decode cX5_advance 16 = .ok (.aload_n 0, 1) := by decide +kernel
theorem dX5_advance_17 : decode cX5_advance 17 = .ok (.getfield 118, 3) := by decide +kernel
theorem dX5_advance_20 : decode cX5_advance 20 = .ok (.iconst 1, 1) := by decide +kernel
theorem dX5_advance_21 : decode cX5_advance 21 = .ok (.iadd, 1) := by decide +kernel
theorem dX5_advance_22 : decode cX5_advance 22 = .ok (.putfield 57, 3) := by decide +kernel
theorem dX5_advance_25 : decode cX5_advance 25 = .ok (.aload_n 0, 1) := by decide +kernel
theorem dX5_advance_26 : decode cX5_advance 26 = .ok (.getfield 118, 3) := by decide +kernel
theorem dX5_advance_29 : decode cX5_advance 29 = .ok (.aload_n 0, 1) := by decide +kernel
theorem dX5_advance_30 : decode cX5_advance 30 = .ok (.getfield 25, 3) := by decide +kernel
theorem dX5_advance_33 : decode cX5_advance 33 = .ok (.getfield 137, 3) := by decide +kernel
theorem dX5_advance_36 : decode cX5_advance 36 = .ok (.if_icmp .lt 19, 3) := by decide +kernel
theorem dX5_advance_39 : decode cX5_advance 39 = .ok (.aload_n 0, 1) := by decide +kernel
theorem dX5_advance_40 : decode cX5_advance 40 = .ok (.aload_n 0, 1) := by decide +kernel
theorem dX5_advance_41 : decode cX5_advance 41 = .ok (.getfield 118, 3) := by decide +kernel
theorem dX5_advance_44 : decode cX5_advance 44 = .ok (.putfield 57, 3) := by decide +kernel
theorem dX5_advance_47 : decode cX5_advance 47 = .ok (.aload_n 0, 1) := by decide +kernel
theorem dX5_advance_48 : decode cX5_advance 48 = .ok (.iconst 0, 1) := by decide +kernel
theorem dX5_advance_49 : decode cX5_advance 49 = .ok (.putfield 41, 3) := by decide +kernel
theorem dX5_advance_52 : decode cX5_advance 52 = .ok (.goto 131, 3) := by decide +kernel
theorem dX5_advance_55 : decode cX5_advance 55 = .ok (.aload_n 0, 1) := by decide +kernel
theorem dX5_advance_56 : decode cX5_advance 56 = .ok (.getfield 25, 3) := by decide +kernel
theorem dX5_advance_59 : decode cX5_advance 59 = .ok (.aload_n 0, 1) := by decide +kernel
theorem dX5_advance_60 : decode cX5_advance 60 = .ok (.getfield 118, 3) := by decide +kernel
theorem dX5_advance_63 : decode cX5_advance 63 = .ok (.bipush 97, 2) := by decide +kernel
theorem dX5_advance_65 : decode cX5_advance 65 = .ok (.bipush 122, 2) := by decide +kernel
theorem dX5_advance_67 : decode cX5_advance 67 = .ok (.invokevirtual 130, 3) := by decide +kernel
theorem dX5_advance_70 : decode cX5_advance 70 = .ok (.ifCond .eq 30, 3) := by decide +kernel
theorem dX5_advance_73 : decode cX5_advance 73 = .ok (.aload_n 0, 1) := by decide +kernel
theorem dX5_advance_74 : decode cX5_advance 74 = .ok (.aload_n 0, 1) := by decide +kernel
theorem dX5_advance_75 : decode cX5_advance 75 = .ok (.getfield 25, 3) := by decide +kernel
theorem dX5_advance_78 : decode cX5_advance 78 = .ok (.aload_n 0, 1) := by decide +kernel
theorem dX5_advance_79 : decode cX5_advance 79 = .ok (.getfield 118, 3) := by decide +kernel
theorem dX5_advance_82 : decode cX5_advance 82 = .ok (.bipush 97, 2) := by decide +kernel
theorem dX5_advance_84 : decode cX5_advance 84 = .ok (.bipush 122, 2) := by decide +kernel
theorem dX5_advance_86 : decode cX5_advance 86 = .ok (.invokevirtual 140, 3) := by decide +kernel
theorem dX5_advance_89 : decode cX5_advance 89 = .ok (.putfield 57, 3) := by decide +kernel
theorem dX5_advance_92 : decode cX5_advance 92 = .ok (.aload_n 0, 1) := by decide +kernel
theorem dX5_advance_93 : decode cX5_advance 93 = .ok (.iconst 1, 1) := by decide +kernel
theorem dX5_advance_94 : decode cX5_advance 94 = .ok (.putfield 41, 3) := by decide +kernel
theorem dX5_advance_97 : decode cX5_advance 97 = .ok (.goto 86, 3) := by decide +kernel
theorem dX5_advance_100 : decode cX5_advance 100 = .ok (.aload_n 0, 1) := by decide +kernel
theorem dX5_advance_101 : decode cX5_advance 101 = .ok (.getfield 25, 3) := by decide +kernel
theorem dX5_advance_104 : decode cX5_advance 104 = .ok (.aload_n 0, 1) := by decide +kernel
theorem dX5_advance_105 : decode cX5_advance 105 = .ok (.getfield 118, 3) := by decide +kernel
theorem dX5_advance_108 : decode cX5_advance 108 = .ok (.bipush 48, 2) := by decide +kernel
theorem dX5_advance_110 : decode cX5_advance 110 = .ok (.bipush 57, 2) := by decide +kernel
theorem dX5_advance_112 : decode cX5_advance 112 = .ok (.invokevirtual 130, 3) := by decide +kernel
theorem dX5_advance_115 : decode cX5_advance 115 = .ok (.ifCond .eq 41, 3) := by decide +kernel
theorem dX5_advance_118 : decode cX5_advance 118 = .ok (.aload_n 0, 1) := by decide +kernel
theorem dX5_advance_119 : decode cX5_advance 119 = .ok (.aload_n 0, 1) := by decide +kernel
theorem dX5_advance_120 : decode cX5_advance 120 = .ok (.getfield 25, 3) := by decide +kernel
theorem dX5_advance_123 : decode cX5_advance 123 = .ok (.aload_n 0, 1) := by decide +kernel
theorem dX5_advance_124 : decode cX5_advance 124 = .ok (.getfield 118, 3) := by decide +kernel
theorem dX5_advance_127 : decode cX5_advance 127 = .ok (.bipush 48, 2) := by decide +kernel
theorem dX5_advance_129 : decode cX5_advance 129 = .ok (.bipush 57, 2) := by decide +kernel
theorem dX5_advance_131 : decode cX5_advance 131 = .ok (.invokevirtual 140, 3) := by decide +kernel
theorem dX5_advance_134 : decode cX5_advance 134 = .ok (.putfield 57, 3) := by decide +kernel
theorem dX5_advance_137 : decode cX5_advance 137 = .ok (.aload_n 0, 1) := by decide +kernel
theorem dX5_advance_138 : decode cX5_advance 138 = .ok (.aload_n 0, 1) := by decide +kernel
theorem dX5_advance_139 : decode cX5_advance 139 = .ok (.invokevirtual 144, 3) := by decide +kernel
theorem dX5_advance_142 : decode cX5_advance 142 = .ok (.ifCond .eq 7, 3) := by decide +kernel
theorem dX5_advance_145 : decode cX5_advance 145 = .ok (.iconst 2, 1) := by decide +kernel
theorem dX5_advance_146 : decode cX5_advance 146 = .ok (.goto 4, 3) := by decide +kernel
theorem dX5_advance_149 : decode cX5_advance 149 = .ok (.iconst 4, 1) := by decide +kernel
theorem dX5_advance_150 : decode cX5_advance 150 = .ok (.putfield 41, 3) := by decide +kernel
theorem dX5_advance_153 : decode cX5_advance 153 = .ok (.goto 30, 3) := by decide +kernel
theorem dX5_advance_156 : decode cX5_advance 156 = .ok (.aload_n 0, 1) := by decide +kernel
theorem dX5_advance_157 : decode cX5_advance 157 = .ok (.aload_n 0, 1) := by decide +kernel
theorem dX5_advance_158 : decode cX5_advance 158 = .ok (.getfield 25, 3) := by decide +kernel
theorem dX5_advance_161 : decode cX5_advance 161 = .ok (.aload_n 0, 1) := by decide +kernel
theorem dX5_advance_162 : decode cX5_advance 162 = .ok (.getfield 118, 3) := by decide +kernel
theorem dX5_advance_165 : decode cX5_advance 165 = .ok (.bipush 59, 2) := by decide +kernel
theorem dX5_advance_167 : decode cX5_advance 167 = .ok (.bipush 59, 2) := by decide +kernel
theorem dX5_advance_169 : decode cX5_advance 169 = .ok (.invokevirtual 130, 3) := by decide +kernel
theorem dX5_advance_172 : decode cX5_advance 172 = .ok (.ifCond .eq 7, 3) := by decide +kernel
theorem dX5_advance_175 : decode cX5_advance 175 = .ok (.iconst 3, 1) := by decide +kernel
theorem dX5_advance_176 : decode cX5_advance 176 = .ok (.goto 4, 3) := by decide +kernel
theorem dX5_advance_179 : decode cX5_advance 179 = .ok (.iconst 4, 1) := by decide +kernel
theorem dX5_advance_180 : decode cX5_advance 180 = .ok (.putfield 41, 3) := by decide +kernel
theorem dX5_advance_183 : decode cX5_advance 183 = .ok (.return_, 1) := by decide +kernel
theorem dX5_readDigits_0 : decode cX5_readDigits 0 = .ok (.aload_n 0, 1) := by decide +kernel
theorem dX5_readDigits_1 : decode cX5_readDigits 1 = .ok (.iconst 0, 1) := by decide +kernel
theorem dX5_readDigits_2 : decode cX5_readDigits 2 = .ok (.putfield 108, 3) := by decide +kernel
theorem dX5_readDigits_5 : decode cX5_readDigits 5 = .ok (.aload_n 0, 1) := by decide +kernel
theorem dX5_readDigits_6 : decode cX5_readDigits 6 = .ok (.getfield 57, 3) := by decide +kernel
theorem dX5_readDigits_9 : decode cX5_readDigits 9 = .ok (.aload_n 0, 1) := by decide +kernel
theorem dX5_readDigits_10 : decode cX5_readDigits 10 = .ok (.getfield 118, 3) := by decide +kernel
theorem dX5_readDigits_13 : decode cX5_readDigits 13 = .ok (.isub, 1) := by decide +kernel
theorem dX5_readDigits_14 : decode cX5_readDigits 14 = .ok (.iconst 5, 1) := by decide +kernel
theorem dX5_readDigits_15 : decode cX5_readDigits 15 = .ok (.if_icmp .gt 20, 3) := by decide +kernel
theorem dX5_readDigits_18 : decode cX5_readDigits 18 = .ok (.aload_n 0, 1) := by decide +kernel
theorem dX5_readDigits_19 : decode cX5_readDigits 19 = .ok (.getfield 118, 3) := by decide +kernel
theorem dX5_readDigits_22 : decode cX5_readDigits 22 = .ok (.ifCond .lt 13, 3) := by decide +kernel
theorem dX5_readDigits_25 : decode cX5_readDigits 25 = .ok (.aload_n 0, 1) := by decide +kernel
theorem dX5_readDigits_26 : decode cX5_readDigits 26 = .ok (.getfield 57, 3) := by decide +kernel
theorem dX5_readDigits_29 : decode cX5_readDigits 29 = .ok (.sipush 1000, 3) := by decide +kernel
theorem dX5_readDigits_32 : decode cX5_readDigits 32 = .ok (.if_icmp .le 5, 3) := by decide +kernel
theorem dX5_readDigits_35 : decode cX5_readDigits 35 = .ok (.iconst 0, 1) := by decide +kernel
theorem dX5_readDigits_36 : decode cX5_readDigits 36 = .ok (.ireturn, 1) := by decide +kernel
theorem dX5_readDigits_37 : decode cX5_readDigits 37 = .ok (.aload_n 0, 1) := by decide +kernel
theorem dX5_readDigits_38 : decode cX5_readDigits 38 = .ok (.getfield 118, 3) := by decide +kernel
theorem dX5_readDigits_41 : decode cX5_readDigits 41 = .ok (.istore_n 1, 1) := by decide +kernel
theorem dX5_readDigits_42 : decode cX5_readDigits 42 = .ok (.iload_n 1, 1) := by decide +kernel
theorem dX5_readDigits_43 : decode cX5_readDigits 43 = .ok (.aload_n 0, 1) := by decide +kernel
theorem dX5_readDigits_44 : decode cX5_readDigits 44 = .ok (.getfield 57, 3) := by decide +kernel
theorem dX5_readDigits_47 : decode cX5_readDigits 47 = .ok (.if_icmp .ge 33, 3) := by decide +kernel
theorem dX5_readDigits_50 : decode cX5_readDigits 50 = .ok (.aload_n 0, 1) := by decide +kernel
theorem dX5_readDigits_51 : decode cX5_readDigits 51 = .ok (.aload_n 0, 1) := by decide +kernel
theorem dX5_readDigits_52 : decode cX5_readDigits 52 = .ok (.getfield 108, 3) := by decide +kernel
theorem dX5_readDigits_55 : decode cX5_readDigits 55 = .ok (.bipush 10, 2) := by decide +kernel
theorem dX5_readDigits_57 : decode cX5_readDigits 57 = .ok (.imul, 1) := by decide +kernel
theorem dX5_readDigits_58 : decode cX5_readDigits 58 = .ok (.aload_n 0, 1) := by decide +kernel
theorem dX5_readDigits_59 : decode cX5_readDigits 59 = .ok (.getfield 25, 3) := by decide +kernel
theorem dX5_readDigits_62 : decode cX5_readDigits 62 = .ok (.getfield 147, 3) := by decide +kernel
theorem dX5_readDigits_65 : decode cX5_readDigits 65 = .ok (.iload_n 1, 1) := by decide +kernel
theorem dX5_readDigits_66 : decode cX5_readDigits 66 = .ok (.baload, 1) := by decide +kernel
theorem dX5_readDigits_67 : decode cX5_readDigits 67 = .ok (.iadd, 1) := by decide +kernel
theorem dX5_readDigits_68 : decode cX5_readDigits 68 = .ok (.bipush 48, 2) := by decide +kernel
theorem dX5_readDigits_70 : decode cX5_readDigits 70 = .ok (.isub, 1) := by decide +kernel
theorem dX5_readDigits_71 : decode cX5_readDigits 71 = .ok (.putfield 108, 3) := by decide +kernel
theorem dX5_readDigits_74 : decode cX5_readDigits 74 = .ok (.iinc 1 1, 3) := by decide +kernel
theorem dX5_readDigits_77 : decode cX5_readDigits 77 = .ok (.goto (-35), 3) := by decide +kernel
theorem dX5_readDigits_80 : decode cX5_readDigits 80 = .ok (.iconst 1, 1) := by decide +kernel
theorem dX5_readDigits_81 : decode cX5_readDigits 81 = .ok (.ireturn, 1) := by decide +kernel
set_option maxRecDepth 20000 in
theorem ggX6_init_X6_forget : GoodIn wsX6_init wsX6_forget := goodIn_r _ [11, 5, 12, 13, 14, 15, 16, 17] (by decide +kernel) (by decide +kernel)
set_option maxRecDepth 20000 in
theorem gX6_init_X6_forget : GoodIn wsX6_init (wsV RX6 19 RX6 yX6_forget wsX6_forget) := goodIn_app (goodIn_of _ (by decide +kernel)) ggX6_init_X6_forget
theorem dX6_init_0 : decode cX6_init 0 = .ok (.aload_n 0, 1) := by decide +kernel
theorem dX6_init_1 : decode cX6_init 1 = .ok (.invokespecial 3, 3) := by decide +kernel
theorem dX6_init_4 : decode cX6_init 4 = .ok (.aload_n 0, 1) := by decide +kernel
theorem dX6_init_5 : decode cX6_init 5 = .ok (.bipush 51, 2) := by decide +kernel
theorem dX6_init_7 : decode cX6_init 7 = .ok (.newarray .int, 2) := by decide +kernel
theorem dX6_init_9 : decode cX6_init 9 = .ok (.putfield 11, 3) := by decide +kernel
theorem dX6_init_12 : decode cX6_init 12 = .ok (.aload_n 0, 1) := by decide +kernel
theorem dX6_init_13 : decode cX6_init 13 = .ok (.iconst (-1), 1) := by decide +kernel
theorem dX6_init_14 : decode cX6_init 14 = .ok (.putfield 15, 3) := by decide +kernel
theorem dX6_init_17 : decode cX6_init 17 = .ok (.aload_n 0, 1) := by decide +kernel
theorem dX6_init_18 : decode cX6_init 18 = .ok (.invokevirtual 19, 3) := by decide +kernel
theorem dX6_init_21 : decode cX6_init 21 = .ok (.return_, 1) := by decide +kernel
set_option maxRecDepth 20000 in
theorem ggX6_forget_J7_fill_53178 : GoodIn wsX6_forget wsJ7_fill_53178 := goodIn_r _ [5] (by decide +kernel) (by decide +kernel)
set_option maxRecDepth 20000 in
theorem gX6_forget_J7_fill_53178 : GoodIn wsX6_forget (va_wsS RX6 22 yJ7_fill_53178 wsJ7_fill_53178) := goodIn_app (goodIn_of _ (by decide +kernel)) ggX6_forget_J7_fill_53178
theorem dX6_forget_0 : decode cX6_forget 0 = .ok (.aload_n 0, 1) := by decide +kernel
theorem dX6_forget_1 : decode cX6_forget 1 = .ok (.getfield 11, 3) := by decide +kernel
theorem dX6_forget_4 : decode cX6_forget 4 = .ok (.bipush (-9), 2) := by decide +kernel
theorem dX6_forget_6 : decode cX6_forget 6 = .ok (.invokestatic 22, 3) := by decide +kernel
theorem dX6_forget_9 : decode cX6_forget 9 = .ok (.aload_n 0, 1) := by decide +kernel
theorem dX6_forget_10 : decode cX6_forget 10 = .ok (.getfield 11, 3) := by decide +kernel
theorem dX6_forget_13 : decode cX6_forget 13 = .ok (.iconst 0, 1) := by decide +kernel
theorem dX6_forget_14 : decode cX6_forget 14 = .ok (.sipush 10950, 3) := by decide +kernel
theorem dX6_forget_17 : decode cX6_forget 17 = .ok (.iastore, 1) := by decide +kernel
theorem dX6_forget_18 : decode cX6_forget 18 = .ok (.aload_n 0, 1) := by decide +kernel
theorem dX6_forget_19 : decode cX6_forget 19 = .ok (.getfield 11, 3) := by decide +kernel
theorem dX6_forget_22 : decode cX6_forget 22 = .ok (.iconst 1, 1) := by decide +kernel
theorem dX6_forget_23 : decode cX6_forget 23 = .ok (.iconst 3, 1) := by decide +kernel
theorem dX6_forget_24 : decode cX6_forget 24 = .ok (.iastore, 1) := by decide +kernel
theorem dX6_forget_25 : decode cX6_forget 25 = .ok (.aload_n 0, 1) := by decide +kernel
theorem dX6_forget_26 : decode cX6_forget 26 = .ok (.getfield 11, 3) := by decide +kernel
theorem dX6_forget_29 : decode cX6_forget 29 = .ok (.iconst 2, 1) := by decide +kernel
theorem dX6_forget_30 : decode cX6_forget 30 = .ok (.sipush 1000, 3) := by decide +kernel
theorem dX6_forget_33 : decode cX6_forget 33 = .ok (.iastore, 1) := by decide +kernel
theorem dX6_forget_34 : decode cX6_forget 34 = .ok (.aload_n 0, 1) := by decide +kernel
theorem dX6_forget_35 : decode cX6_forget 35 = .ok (.getfield 11, 3) := by decide +kernel
theorem dX6_forget_38 : decode cX6_forget 38 = .ok (.iconst 3, 1) := by decide +kernel
theorem dX6_forget_39 : decode cX6_forget 39 = .ok (.iconst 0, 1) := by decide +kernel
theorem dX6_forget_40 : decode cX6_forget 40 = .ok (.iastore, 1) := by decide +kernel
theorem dX6_forget_41 : decode cX6_forget 41 = .ok (.iconst 0, 1) := by decide +kernel
theorem dX6_forget_42 : decode cX6_forget 42 = .ok (.istore_n 1, 1) := by decide +kernel
theorem dX6_forget_43 : decode cX6_forget 43 = .ok (.iload_n 1, 1) := by decide +kernel
theorem dX6_forget_44 : decode cX6_forget 44 = .ok (.bipush 6, 2) := by decide +kernel
theorem dX6_forget_46 : decode cX6_forget 46 = .ok (.if_icmp .ge 51, 3) := by decide +kernel
theorem dX6_forget_49 : decode cX6_forget 49 = .ok (.aload_n 0, 1) := by decide +kernel
theorem dX6_forget_50 : decode cX6_forget 50 = .ok (.getfield 11, 3) := by decide +kernel
theorem dX6_forget_53 : decode cX6_forget 53 = .ok (.bipush 10, 2) := by decide +kernel
theorem dX6_forget_55 : decode cX6_forget 55 = .ok (.iload_n 1, 1) := by decide +kernel
theorem dX6_forget_56 : decode cX6_forget 56 = .ok (.iadd, 1) := by decide +kernel
theorem dX6_forget_57 : decode cX6_forget 57 = .ok (.bipush 10, 2) := by decide +kernel
theorem dX6_forget_59 : decode cX6_forget 59 = .ok (.iastore, 1) := by decide +kernel
theorem dX6_forget_60 : decode cX6_forget 60 = .ok (.aload_n 0, 1) := by decide +kernel
theorem dX6_forget_61 : decode cX6_forget 61 = .ok (.getfield 11, 3) := by decide +kernel
theorem dX6_forget_64 : decode cX6_forget 64 = .ok (.bipush 20, 2) := by decide +kernel
theorem dX6_forget_66 : decode cX6_forget 66 = .ok (.iload_n 1, 1) := by decide +kernel
theorem dX6_forget_67 : decode cX6_forget 67 = .ok (.iadd, 1) := by decide +kernel
theorem dX6_forget_68 : decode cX6_forget 68 = .ok (.iconst (-1), 1) := by decide +kernel
theorem dX6_forget_69 : decode cX6_forget 69 = .ok (.iastore, 1) := by decide +kernel
theorem dX6_forget_70 : decode cX6_forget 70 = .ok (.aload_n 0, 1) := by decide +kernel
theorem dX6_forget_71 : decode cX6_forget 71 = .ok (.getfield 11, 3) := by decide +kernel
theorem dX6_forget_74 : decode cX6_forget 74 = .ok (.bipush 30, 2) := by decide +kernel
theorem dX6_forget_76 : decode cX6_forget 76 = .ok (.iload_n 1, 1) := by decide +kernel
theorem dX6_forget_77 : decode cX6_forget 77 = .ok (.iadd, 1) := by decide +kernel
theorem dX6_forget_78 : decode cX6_forget 78 = .ok (.bipush 10, 2) := by decide +kernel
theorem dX6_forget_80 : decode cX6_forget 80 = .ok (.iastore, 1) := by decide +kernel
theorem dX6_forget_81 : decode cX6_forget 81 = .ok (.aload_n 0, 1) := by decide +kernel
theorem dX6_forget_82 : decode cX6_forget 82 = .ok (.getfield 11, 3) := by decide +kernel
theorem dX6_forget_85 : decode cX6_forget 85 = .ok (.bipush 40, 2) := by decide +kernel
theorem dX6_forget_87 : decode cX6_forget 87 = .ok (.iload_n 1, 1) := by decide +kernel
theorem dX6_forget_88 : decode cX6_forget 88 = .ok (.iadd, 1) := by decide +kernel
theorem dX6_forget_89 : decode cX6_forget 89 = .ok (.iconst 0, 1) := by decide +kernel
theorem dX6_forget_90 : decode cX6_forget 90 = .ok (.iastore, 1) := by decide +kernel
theorem dX6_forget_91 : decode cX6_forget 91 = .ok (.iinc 1 1, 3) := by decide +kernel
theorem dX6_forget_94 : decode cX6_forget 94 = .ok (.goto (-51), 3) := by decide +kernel
theorem dX6_forget_97 : decode cX6_forget 97 = .ok (.aload_n 0, 1) := by decide +kernel
theorem dX6_forget_98 : decode cX6_forget 98 = .ok (.getfield 11, 3) := by decide +kernel
theorem dX6_forget_101 : decode cX6_forget 101 = .ok (.bipush 50, 2) := by decide +kernel
theorem dX6_forget_103 : decode cX6_forget 103 = .ok (.iconst (-1), 1) := by decide +kernel
theorem dX6_forget_104 : decode cX6_forget 104 = .ok (.iastore, 1) := by decide +kernel
theorem dX6_forget_105 : decode cX6_forget 105 = .ok (.return_, 1) := by decide +kernel
theorem dX6_copy_0 : decode cX6_copy 0 = .ok (.aload_n 1, 1) := by decide +kernel
theorem dX6_copy_1 : decode cX6_copy 1 = .ok (.getfield 11, 3) := by decide +kernel
theorem dX6_copy_4 : decode cX6_copy 4 = .ok (.iconst 0, 1) := by decide +kernel
theorem dX6_copy_5 : decode cX6_copy 5 = .ok (.aload_n 0, 1) := by decide +kernel
theorem dX6_copy_6 : decode cX6_copy 6 = .ok (.getfield 11, 3) := by decide +kernel
theorem dX6_copy_9 : decode cX6_copy 9 = .ok (.iconst 0, 1) := by decide +kernel
theorem dX6_copy_10 : decode cX6_copy 10 = .ok (.aload_n 0, 1) := by decide +kernel
theorem dX6_copy_11 : decode cX6_copy 11 = .ok (.getfield 11, 3) := by decide +kernel
theorem dX6_copy_14 : decode cX6_copy 14 = .ok (.arraylength, 1) := by decide +kernel
theorem dX6_copy_15 : decode cX6_copy 15 = .ok (.invokestatic 28, 3) := by decide +kernel
theorem dX6_copy_18 : decode cX6_copy 18 = .ok (.return_, 1) := by decide +kernel
theorem dX6_answer_0 : decode cX6_answer 0 = .ok (.iload_n 1, 1) := by decide +kernel
theorem dX6_answer_1 : decode cX6_answer 1 = .ok (.ifCond .lt 21, 3) := by decide +kernel
theorem dX6_answer_4 : decode cX6_answer 4 = .ok (.iload_n 1, 1) := by decide +kernel
theorem dX6_answer_5 : decode cX6_answer 5 = .ok (.aload_n 0, 1) := by decide +kernel
theorem dX6_answer_6 : decode cX6_answer 6 = .ok (.getfield 11, 3) := by decide +kernel
theorem dX6_answer_9 : decode cX6_answer 9 = .ok (.arraylength, 1) := by decide +kernel
theorem dX6_answer_10 : decode cX6_answer 10 = .ok (.if_icmp .ge 12, 3) := by decide +kernel
theorem dX6_answer_13 : decode cX6_answer 13 = .ok (.aload_n 0, 1) := by decide +kernel
theorem dX6_answer_14 : decode cX6_answer 14 = .ok (.getfield 11, 3) := by decide +kernel
theorem dX6_answer_17 : decode cX6_answer 17 = .ok (.iload_n 1, 1) := by decide +kernel
theorem dX6_answer_18 : decode cX6_answer 18 = .ok (.iaload, 1) := by decide +kernel
theorem dX6_answer_19 : decode cX6_answer 19 = .ok (.goto 5, 3) := by decide +kernel
theorem dX6_answer_22 : decode cX6_answer 22 = .ok (.bipush (-9), 2) := by decide +kernel
theorem dX6_answer_24 : decode cX6_answer 24 = .ok (.ireturn, 1) := by decide +kernel
theorem dX6_tell_0 : decode cX6_tell 0 = .ok (.iload_n 1, 1) := by decide +kernel
theorem dX6_tell_1 : decode cX6_tell 1 = .ok (.ifCond .lt 19, 3) := by decide +kernel
theorem dX6_tell_4 : decode cX6_tell 4 = .ok (.iload_n 1, 1) := by decide +kernel
theorem dX6_tell_5 : decode cX6_tell 5 = .ok (.aload_n 0, 1) := by decide +kernel
theorem dX6_tell_6 : decode cX6_tell 6 = .ok (.getfield 11, 3) := by decide +kernel
theorem dX6_tell_9 : decode cX6_tell 9 = .ok (.arraylength, 1) := by decide +kernel
theorem dX6_tell_10 : decode cX6_tell 10 = .ok (.if_icmp .ge 10, 3) := by decide +kernel
theorem dX6_tell_13 : decode cX6_tell 13 = .ok (.aload_n 0, 1) := by decide +kernel
theorem dX6_tell_14 : decode cX6_tell 14 = .ok (.getfield 11, 3) := by decide +kernel
theorem dX6_tell_17 : decode cX6_tell 17 = .ok (.iload_n 1, 1) := by decide +kernel
theorem dX6_tell_18 : decode cX6_tell 18 = .ok (.iload_n 2, 1) := by decide +kernel
theorem dX6_tell_19 : decode cX6_tell 19 = .ok (.iastore, 1) := by decide +kernel
theorem dX6_tell_20 : decode cX6_tell 20 = .ok (.return_, 1) := by decide +kernel
set_option maxRecDepth 20000 in
theorem ggX6_waterOf_X6_answer : GoodIn wsX6_waterOf wsX6_answer := goodIn_r _ [5, 6, 7, 8] (by decide +kernel) (by decide +kernel)
set_option maxRecDepth 20000 in
theorem gX6_waterOf_X6_answer : GoodIn wsX6_waterOf (wsV RX6 34 RX6 yX6_answer wsX6_answer) := goodIn_app (goodIn_of _ (by decide +kernel)) ggX6_waterOf_X6_answer
theorem dX6_waterOf_0 : decode cX6_waterOf 0 = .ok (.aload_n 0, 1) := by decide +kernel
theorem dX6_waterOf_1 : decode cX6_waterOf 1 = .ok (.bipush 20, 2) := by decide +kernel
theorem dX6_waterOf_3 : decode cX6_waterOf 3 = .ok (.iload_n 1, 1) := by decide +kernel
theorem dX6_waterOf_4 : decode cX6_waterOf 4 = .ok (.iadd, 1) := by decide +kernel
theorem dX6_waterOf_5 : decode cX6_waterOf 5 = .ok (.invokevirtual 34, 3) := by decide +kernel
theorem dX6_waterOf_8 : decode cX6_waterOf 8 = .ok (.istore_n 3, 1) := by decide +kernel
theorem dX6_waterOf_9 : decode cX6_waterOf 9 = .ok (.iload_n 3, 1) := by decide +kernel
theorem dX6_waterOf_10 : decode cX6_waterOf 10 = .ok (.iconst (-1), 1) := by decide +kernel
theorem dX6_waterOf_11 : decode cX6_waterOf 11 = .ok (.if_icmp .eq 19, 3) := by decide +kernel
theorem dX6_waterOf_14 : decode cX6_waterOf 14 = .ok (.iload_n 2, 1) := by decide +kernel
theorem dX6_waterOf_15 : decode cX6_waterOf 15 = .ok (.iload_n 3, 1) := by decide +kernel
theorem dX6_waterOf_16 : decode cX6_waterOf 16 = .ok (.if_icmp .le 14, 3) := by decide +kernel
theorem dX6_waterOf_19 : decode cX6_waterOf 19 = .ok (.aload_n 0, 1) := by decide +kernel
theorem dX6_waterOf_20 : decode cX6_waterOf 20 = .ok (.bipush 30, 2) := by decide +kernel
theorem dX6_waterOf_22 : decode cX6_waterOf 22 = .ok (.iload_n 1, 1) := by decide +kernel
