theorem dX9_fault_11 : decode cX9_fault 11 = .ok (.ireturn, 1) := by decide +kernel
theorem dX9_fault_12 : decode cX9_fault 12 = .ok (.iload_n 1, 1) := by decide +kernel
theorem dX9_fault_13 : decode cX9_fault 13 = .ok (.iconst 1, 1) := by decide +kernel
theorem dX9_fault_14 : decode cX9_fault 14 = .ok (.if_icmp .ne 13, 3) := by decide +kernel
theorem dX9_fault_17 : decode cX9_fault 17 = .ok (.aload_n 0, 1) := by decide +kernel
theorem dX9_fault_18 : decode cX9_fault 18 = .ok (.getfield 21, 3) := by decide +kernel
theorem dX9_fault_21 : decode cX9_fault 21 = .ok (.getfield 85, 3) := by decide +kernel
theorem dX9_fault_24 : decode cX9_fault 24 = .ok (.goto 4, 3) := by decide +kernel
theorem dX9_fault_27 : decode cX9_fault 27 = .ok (.iconst (-1), 1) := by decide +kernel
theorem dX9_fault_28 : decode cX9_fault 28 = .ok (.ireturn, 1) := by decide +kernel
set_option maxRecDepth 20000 in
theorem ggX9_law_X4_inForce : GoodIn wsX9_law wsX4_inForce := goodIn_r _ [6, 7, 8, 9, 10, 28, 29, 30, 31, 32] (by decide +kernel) (by decide +kernel)
set_option maxRecDepth 20000 in
theorem gX9_law_X4_inForce : GoodIn wsX9_law (wsV RX9 88 RX4 yX4_inForce wsX4_inForce) := goodIn_app (goodIn_of _ (by decide +kernel)) ggX9_law_X4_inForce
set_option maxRecDepth 20000 in
theorem ggX9_law_X6_answer : GoodIn wsX9_law wsX6_answer := goodIn_r _ [15, 16, 31, 32] (by decide +kernel) (by decide +kernel)
set_option maxRecDepth 20000 in
theorem gX9_law_X6_answer : GoodIn wsX9_law (wsV RX9 92 RX6 yX6_answer wsX6_answer) := goodIn_app (goodIn_of _ (by decide +kernel)) ggX9_law_X6_answer
theorem dX9_law_0 : decode cX9_law 0 = .ok (.iload_n 1, 1) := by decide +kernel
theorem dX9_law_1 : decode cX9_law 1 = .ok (.ifCond .lt 10, 3) := by decide +kernel
theorem dX9_law_4 : decode cX9_law 4 = .ok (.iload_n 1, 1) := by decide +kernel
theorem dX9_law_5 : decode cX9_law 5 = .ok (.sipush 20000, 3) := by decide +kernel
theorem dX9_law_8 : decode cX9_law 8 = .ok (.if_icmp .le 6, 3) := by decide +kernel
theorem dX9_law_11 : decode cX9_law 11 = .ok (.bipush (-9), 2) := by decide +kernel
theorem dX9_law_13 : decode cX9_law 13 = .ok (.ireturn, 1) := by decide +kernel
theorem dX9_law_14 : decode cX9_law 14 = .ok (.aload_n 0, 1) := by decide +kernel
theorem dX9_law_15 : decode cX9_law 15 = .ok (.getfield 28, 3) := by decide +kernel
theorem dX9_law_18 : decode cX9_law 18 = .ok (.iload_n 1, 1) := by decide +kernel
theorem dX9_law_19 : decode cX9_law 19 = .ok (.invokevirtual 88, 3) := by decide +kernel
theorem dX9_law_22 : decode cX9_law 22 = .ok (.iload_n 2, 1) := by decide +kernel
theorem dX9_law_23 : decode cX9_law 23 = .ok (.invokevirtual 92, 3) := by decide +kernel
theorem dX9_law_26 : decode cX9_law 26 = .ok (.ireturn, 1) := by decide +kernel
set_option maxRecDepth 20000 in
theorem ggX9_citizen_X9_isTribe : GoodIn wsX9_citizen wsX9_isTribe := goodIn_r _ [11] (by decide +kernel) (by decide +kernel)
set_option maxRecDepth 20000 in
theorem gX9_citizen_X9_isTribe : GoodIn wsX9_citizen (va_wsS RX9 98 yX9_isTribe wsX9_isTribe) := goodIn_app (goodIn_of _ (by decide +kernel)) ggX9_citizen_X9_isTribe
set_option maxRecDepth 20000 in
theorem ggX9_citizen_X1_init : GoodIn wsX9_citizen wsX1_init := goodIn_r _ [14, 15, 16, 17, 18, 19, 20, 21, 22, 23, 35, 36, 37, 38, 39, 40, 41, 42, 43, 44] (by decide +kernel) (by decide +kernel)
set_option maxRecDepth 20000 in
theorem gX9_citizen_X1_init : GoodIn wsX9_citizen (wsX1_init) := ggX9_citizen_X1_init
theorem dX9_citizen_0 : decode cX9_citizen 0 = .ok (.iload_n 1, 1) := by decide +kernel
theorem dX9_citizen_1 : decode cX9_citizen 1 = .ok (.invokestatic 98, 3) := by decide +kernel
theorem dX9_citizen_4 : decode cX9_citizen 4 = .ok (.ifCond .eq 12, 3) := by decide +kernel
theorem dX9_citizen_7 : decode cX9_citizen 7 = .ok (.iload_n 2, 1) := by decide +kernel
theorem dX9_citizen_8 : decode cX9_citizen 8 = .ok (.ifCond .lt 8, 3) := by decide +kernel
theorem dX9_citizen_11 : decode cX9_citizen 11 = .ok (.iload_n 2, 1) := by decide +kernel
theorem dX9_citizen_12 : decode cX9_citizen 12 = .ok (.iconst 5, 1) := by decide +kernel
theorem dX9_citizen_13 : decode cX9_citizen 13 = .ok (.if_icmp .lt 6, 3) := by decide +kernel
theorem dX9_citizen_16 : decode cX9_citizen 16 = .ok (.bipush (-2), 2) := by decide +kernel
theorem dX9_citizen_18 : decode cX9_citizen 18 = .ok (.ireturn, 1) := by decide +kernel
theorem dX9_citizen_19 : decode cX9_citizen 19 = .ok (.iload_n 3, 1) := by decide +kernel
theorem dX9_citizen_20 : decode cX9_citizen 20 = .ok (.ldc 102, 2) := by decide +kernel
theorem dX9_citizen_22 : decode cX9_citizen 22 = .ok (.if_icmp .lt 11, 3) := by decide +kernel
theorem dX9_citizen_25 : decode cX9_citizen 25 = .ok (.iload_n 3, 1) := by decide +kernel
theorem dX9_citizen_26 : decode cX9_citizen 26 = .ok (.aload_n 0, 1) := by decide +kernel
theorem dX9_citizen_27 : decode cX9_citizen 27 = .ok (.getfield 67, 3) := by decide +kernel
theorem dX9_citizen_30 : decode cX9_citizen 30 = .ok (.if_icmp .lt 6, 3) := by decide +kernel
theorem dX9_citizen_33 : decode cX9_citizen 33 = .ok (.bipush (-2), 2) := by decide +kernel
theorem dX9_citizen_35 : decode cX9_citizen 35 = .ok (.ireturn, 1) := by decide +kernel
theorem dX9_citizen_36 : decode cX9_citizen 36 = .ok (.aload_n 0, 1) := by decide +kernel
theorem dX9_citizen_37 : decode cX9_citizen 37 = .ok (.getfield 103, 3) := by decide +kernel
theorem dX9_citizen_40 : decode cX9_citizen 40 = .ok (.sipush 150, 3) := by decide +kernel
theorem dX9_citizen_43 : decode cX9_citizen 43 = .ok (.if_icmp .lt 6, 3) := by decide +kernel
theorem dX9_citizen_46 : decode cX9_citizen 46 = .ok (.bipush (-3), 2) := by decide +kernel
theorem dX9_citizen_48 : decode cX9_citizen 48 = .ok (.ireturn, 1) := by decide +kernel
theorem dX9_citizen_49 : decode cX9_citizen 49 = .ok (.aload_n 0, 1) := by decide +kernel
theorem dX9_citizen_50 : decode cX9_citizen 50 = .ok (.getfield 103, 3) := by decide +kernel
theorem dX9_citizen_53 : decode cX9_citizen 53 = .ok (.istore 4, 2) := by decide +kernel
theorem dX9_citizen_55 : decode cX9_citizen 55 = .ok (.aload_n 0, 1) := by decide +kernel
theorem dX9_citizen_56 : decode cX9_citizen 56 = .ok (.getfield 34, 3) := by decide +kernel
theorem dX9_citizen_59 : decode cX9_citizen 59 = .ok (.iload 4, 2) := by decide +kernel
theorem dX9_citizen_61 : decode cX9_citizen 61 = .ok (.new 32, 3) := by decide +kernel
theorem dX9_citizen_64 : decode cX9_citizen 64 = .ok (.dup, 1) := by decide +kernel
theorem dX9_citizen_65 : decode cX9_citizen 65 = .ok (.iload 4, 2) := by decide +kernel
theorem dX9_citizen_67 : decode cX9_citizen 67 = .ok (.iload_n 1, 1) := by decide +kernel
theorem dX9_citizen_68 : decode cX9_citizen 68 = .ok (.iload_n 2, 1) := by decide +kernel
theorem dX9_citizen_69 : decode cX9_citizen 69 = .ok (.iload_n 3, 1) := by decide +kernel
theorem dX9_citizen_70 : decode cX9_citizen 70 = .ok (.invokespecial 106, 3) := by decide +kernel
theorem dX9_citizen_73 : decode cX9_citizen 73 = .ok (.aastore, 1) := by decide +kernel
theorem dX9_citizen_74 : decode cX9_citizen 74 = .ok (.aload_n 0, 1) := by decide +kernel
theorem dX9_citizen_75 : decode cX9_citizen 75 = .ok (.dup, 1) := by decide +kernel
theorem dX9_citizen_76 : decode cX9_citizen 76 = .ok (.getfield 103, 3) := by decide +kernel
theorem dX9_citizen_79 : decode cX9_citizen 79 = .ok (.iconst 1, 1) := by decide +kernel
theorem dX9_citizen_80 : decode cX9_citizen 80 = .ok (.iadd, 1) := by decide +kernel
theorem dX9_citizen_81 : decode cX9_citizen 81 = .ok (.putfield 103, 3) := by decide +kernel
theorem dX9_citizen_84 : decode cX9_citizen 84 = .ok (.iload 4, 2) := by decide +kernel
theorem dX9_citizen_86 : decode cX9_citizen 86 = .ok (.ireturn, 1) := by decide +kernel
set_option maxRecDepth 20000 in
theorem ggX9_swear_X9_citizenAt : GoodIn wsX9_swear wsX9_citizenAt := goodIn_r _ [6, 7, 8, 19, 20, 21, 22, 23, 24, 25, 26, 27, 28, 29] (by decide +kernel) (by decide +kernel)
set_option maxRecDepth 20000 in
theorem gX9_swear_X9_citizenAt : GoodIn wsX9_swear (wsV RX9 109 RX9 yX9_citizenAt wsX9_citizenAt) := goodIn_app (goodIn_of _ (by decide +kernel)) ggX9_swear_X9_citizenAt
theorem dX9_swear_0 : decode cX9_swear 0 = .ok (.aload_n 0, 1) := by decide +kernel
theorem dX9_swear_1 : decode cX9_swear 1 = .ok (.iload_n 1, 1) := by decide +kernel
theorem dX9_swear_2 : decode cX9_swear 2 = .ok (.invokevirtual 109, 3) := by decide +kernel
theorem dX9_swear_5 : decode cX9_swear 5 = .ok (.astore_n 2, 1) := by decide +kernel
theorem dX9_swear_6 : decode cX9_swear 6 = .ok (.aload_n 2, 1) := by decide +kernel
theorem dX9_swear_7 : decode cX9_swear 7 = .ok (.ifnonnull 6, 3) := by decide +kernel
theorem dX9_swear_10 : decode cX9_swear 10 = .ok (.bipush (-2), 2) := by decide +kernel
theorem dX9_swear_12 : decode cX9_swear 12 = .ok (.ireturn, 1) := by decide +kernel
theorem dX9_swear_13 : decode cX9_swear 13 = .ok (.aload_n 2, 1) := by decide +kernel
theorem dX9_swear_14 : decode cX9_swear 14 = .ok (.getfield 113, 3) := by decide +kernel
theorem dX9_swear_17 : decode cX9_swear 17 = .ok (.ifCond .eq 5, 3) := by decide +kernel
theorem dX9_swear_20 : decode cX9_swear 20 = .ok (.iconst 0, 1) := by decide +kernel
theorem dX9_swear_21 : decode cX9_swear 21 = .ok (.ireturn, 1) := by decide +kernel
theorem dX9_swear_22 : decode cX9_swear 22 = .ok (.aload_n 2, 1) := by decide +kernel
theorem dX9_swear_23 : decode cX9_swear 23 = .ok (.iconst 1, 1) := by decide +kernel
theorem dX9_swear_24 : decode cX9_swear 24 = .ok (.putfield 113, 3) := by decide +kernel
theorem dX9_swear_27 : decode cX9_swear 27 = .ok (.iconst 1, 1) := by decide +kernel
theorem dX9_swear_28 : decode cX9_swear 28 = .ok (.ireturn, 1) := by decide +kernel
set_option maxRecDepth 20000 in
theorem ggX9_owe_X9_citizenAt : GoodIn wsX9_owe wsX9_citizenAt := goodIn_r _ [9, 10, 11, 39, 40, 41, 42, 43, 44, 45, 46, 47, 48, 49] (by decide +kernel) (by decide +kernel)
set_option maxRecDepth 20000 in
theorem gX9_owe_X9_citizenAt : GoodIn wsX9_owe (wsV RX9 109 RX9 yX9_citizenAt wsX9_citizenAt) := goodIn_app (goodIn_of _ (by decide +kernel)) ggX9_owe_X9_citizenAt
set_option maxRecDepth 20000 in
theorem ggX9_owe_X9_addDebt : GoodIn wsX9_owe wsX9_addDebt := goodIn_r _ [15, 4, 16, 17, 18, 19, 20, 21, 8, 22, 23, 24, 25, 26, 27, 28, 29, 30, 31, 32, 33, 34, 35, 36, 37, 38, 50, 51, 52, 53, 54, 55, 56, 57, 58, 59, 60, 61, 62, 63, 39, 40, 41, 42, 43, 44, 45, 46, 47, 48, 49, 64, 65, 66, 67, 68, 69, 70, 71, 72, 73, 74, 75, 76, 77, 78, 79] (by decide +kernel) (by decide +kernel)
set_option maxRecDepth 20000 in
theorem gX9_owe_X9_addDebt : GoodIn wsX9_owe (wsV RX9 122 RX9 yX9_addDebt wsX9_addDebt) := goodIn_app (goodIn_of _ (by decide +kernel)) ggX9_owe_X9_addDebt
theorem dX9_owe_0 : decode cX9_owe 0 = .ok (.aload_n 0, 1) := by decide +kernel
theorem dX9_owe_1 : decode cX9_owe 1 = .ok (.iload_n 1, 1) := by decide +kernel
theorem dX9_owe_2 : decode cX9_owe 2 = .ok (.invokevirtual 109, 3) := by decide +kernel
theorem dX9_owe_5 : decode cX9_owe 5 = .ok (.astore 4, 2) := by decide +kernel
theorem dX9_owe_7 : decode cX9_owe 7 = .ok (.aload 4, 2) := by decide +kernel
theorem dX9_owe_9 : decode cX9_owe 9 = .ok (.ifnull 15, 3) := by decide +kernel
theorem dX9_owe_12 : decode cX9_owe 12 = .ok (.iload_n 3, 1) := by decide +kernel
theorem dX9_owe_13 : decode cX9_owe 13 = .ok (.ifCond .lt 11, 3) := by decide +kernel
theorem dX9_owe_16 : decode cX9_owe 16 = .ok (.iload_n 3, 1) := by decide +kernel
theorem dX9_owe_17 : decode cX9_owe 17 = .ok (.aload_n 0, 1) := by decide +kernel
theorem dX9_owe_18 : decode cX9_owe 18 = .ok (.getfield 67, 3) := by decide +kernel
theorem dX9_owe_21 : decode cX9_owe 21 = .ok (.if_icmp .le 6, 3) := by decide +kernel
theorem dX9_owe_24 : decode cX9_owe 24 = .ok (.bipush (-2), 2) := by decide +kernel
theorem dX9_owe_26 : decode cX9_owe 26 = .ok (.ireturn, 1) := by decide +kernel
theorem dX9_owe_27 : decode cX9_owe 27 = .ok (.iload_n 2, 1) := by decide +kernel
theorem dX9_owe_28 : decode cX9_owe 28 = .ok (.iconst 1, 1) := by decide +kernel
theorem dX9_owe_29 : decode cX9_owe 29 = .ok (.if_icmp .lt 21, 3) := by decide +kernel
theorem dX9_owe_32 : decode cX9_owe 32 = .ok (.iload_n 2, 1) := by decide +kernel
theorem dX9_owe_33 : decode cX9_owe 33 = .ok (.ldc 117, 2) := by decide +kernel
theorem dX9_owe_35 : decode cX9_owe 35 = .ok (.if_icmp .gt 15, 3) := by decide +kernel
theorem dX9_owe_38 : decode cX9_owe 38 = .ok (.iload_n 2, 1) := by decide +kernel
theorem dX9_owe_39 : decode cX9_owe 39 = .ok (.ldc 118, 2) := by decide +kernel
theorem dX9_owe_41 : decode cX9_owe 41 = .ok (.aload 4, 2) := by decide +kernel
theorem dX9_owe_43 : decode cX9_owe 43 = .ok (.getfield 119, 3) := by decide +kernel
theorem dX9_owe_46 : decode cX9_owe 46 = .ok (.isub, 1) := by decide +kernel
theorem dX9_owe_47 : decode cX9_owe 47 = .ok (.if_icmp .le 6, 3) := by decide +kernel
theorem dX9_owe_50 : decode cX9_owe 50 = .ok (.bipush (-2), 2) := by decide +kernel
theorem dX9_owe_52 : decode cX9_owe 52 = .ok (.ireturn, 1) := by decide +kernel
theorem dX9_owe_53 : decode cX9_owe 53 = .ok (.aload_n 0, 1) := by decide +kernel
theorem dX9_owe_54 : decode cX9_owe 54 = .ok (.aload 4, 2) := by decide +kernel
theorem dX9_owe_56 : decode cX9_owe 56 = .ok (.iload_n 2, 1) := by decide +kernel
theorem dX9_owe_57 : decode cX9_owe 57 = .ok (.invokevirtual 122, 3) := by decide +kernel
theorem dX9_owe_60 : decode cX9_owe 60 = .ok (.aload 4, 2) := by decide +kernel
theorem dX9_owe_62 : decode cX9_owe 62 = .ok (.getfield 119, 3) := by decide +kernel
theorem dX9_owe_65 : decode cX9_owe 65 = .ok (.ireturn, 1) := by decide +kernel
set_option maxRecDepth 20000 in
theorem ggX9_pay_X9_citizenAt : GoodIn wsX9_pay wsX9_citizenAt := goodIn_r _ [6, 7, 8, 19, 20, 21, 22, 23, 24, 25, 26, 27, 28, 29] (by decide +kernel) (by decide +kernel)
set_option maxRecDepth 20000 in
theorem gX9_pay_X9_citizenAt : GoodIn wsX9_pay (wsV RX9 109 RX9 yX9_citizenAt wsX9_citizenAt) := goodIn_app (goodIn_of _ (by decide +kernel)) ggX9_pay_X9_citizenAt
theorem dX9_pay_0 : decode cX9_pay 0 = .ok (.aload_n 0, 1) := by decide +kernel
theorem dX9_pay_1 : decode cX9_pay 1 = .ok (.iload_n 1, 1) := by decide +kernel
theorem dX9_pay_2 : decode cX9_pay 2 = .ok (.invokevirtual 109, 3) := by decide +kernel
theorem dX9_pay_5 : decode cX9_pay 5 = .ok (.astore_n 3, 1) := by decide +kernel
theorem dX9_pay_6 : decode cX9_pay 6 = .ok (.aload_n 3, 1) := by decide +kernel
theorem dX9_pay_7 : decode cX9_pay 7 = .ok (.ifnull 16, 3) := by decide +kernel
theorem dX9_pay_10 : decode cX9_pay 10 = .ok (.iload_n 2, 1) := by decide +kernel
theorem dX9_pay_11 : decode cX9_pay 11 = .ok (.iconst 1, 1) := by decide +kernel
theorem dX9_pay_12 : decode cX9_pay 12 = .ok (.if_icmp .lt 11, 3) := by decide +kernel
theorem dX9_pay_15 : decode cX9_pay 15 = .ok (.iload_n 2, 1) := by decide +kernel
theorem dX9_pay_16 : decode cX9_pay 16 = .ok (.aload_n 3, 1) := by decide +kernel
theorem dX9_pay_17 : decode cX9_pay 17 = .ok (.getfield 119, 3) := by decide +kernel
theorem dX9_pay_20 : decode cX9_pay 20 = .ok (.if_icmp .le 6, 3) := by decide +kernel
theorem dX9_pay_23 : decode cX9_pay 23 = .ok (.bipush (-2), 2) := by decide +kernel
theorem dX9_pay_25 : decode cX9_pay 25 = .ok (.ireturn, 1) := by decide +kernel
theorem dX9_pay_26 : decode cX9_pay 26 = .ok (.aload_n 3, 1) := by decide +kernel
theorem dX9_pay_27 : decode cX9_pay 27 = .ok (.dup, 1) := by decide +kernel
theorem dX9_pay_28 : decode cX9_pay 28 = .ok (.getfield 119, 3) := by decide +kernel
theorem dX9_pay_31 : decode cX9_pay 31 = .ok (.iload_n 2, 1) := by decide +kernel
theorem dX9_pay_32 : decode cX9_pay 32 = .ok (.isub, 1) := by decide +kernel
theorem dX9_pay_33 : decode cX9_pay 33 = .ok (.putfield 119, 3) := by decide +kernel
theorem dX9_pay_36 : decode cX9_pay 36 = .ok (.aload_n 3, 1) := by decide +kernel
theorem dX9_pay_37 : decode cX9_pay 37 = .ok (.getfield 119, 3) := by decide +kernel
theorem dX9_pay_40 : decode cX9_pay 40 = .ok (.ireturn, 1) := by decide +kernel
set_option maxRecDepth 20000 in
theorem ggX9_about_X9_citizenAt : GoodIn wsX9_about wsX9_citizenAt := goodIn_r _ [14, 15, 16, 48, 49, 50, 51, 52, 53, 54, 55, 56, 57, 58] (by decide +kernel) (by decide +kernel)
set_option maxRecDepth 20000 in
theorem gX9_about_X9_citizenAt : GoodIn wsX9_about (wsV RX9 109 RX9 yX9_citizenAt wsX9_citizenAt) := goodIn_app (goodIn_of _ (by decide +kernel)) ggX9_about_X9_citizenAt
set_option maxRecDepth 20000 in
theorem ggX9_about_X9_maySit : GoodIn wsX9_about wsX9_maySit := goodIn_r _ [20, 21, 22, 4, 5, 3, 23, 24, 25, 26, 27, 28, 29, 30, 31, 32, 33, 34, 35, 36, 37, 48, 49, 50, 51, 52, 53, 54, 55, 56, 57, 58, 38, 39, 40, 41, 42, 43, 44, 45, 46, 47, 59, 60, 61, 62, 63] (by decide +kernel) (by decide +kernel)
set_option maxRecDepth 20000 in
theorem gX9_about_X9_maySit : GoodIn wsX9_about (wsV RX9 135 RX9 yX9_maySit wsX9_maySit) := goodIn_app (goodIn_of _ (by decide +kernel)) ggX9_about_X9_maySit
theorem dX9_about_0 : decode cX9_about 0 = .ok (.aload_n 0, 1) := by decide +kernel
theorem dX9_about_1 : decode cX9_about 1 = .ok (.iload_n 1, 1) := by decide +kernel
theorem dX9_about_2 : decode cX9_about 2 = .ok (.invokevirtual 109, 3) := by decide +kernel
theorem dX9_about_5 : decode cX9_about 5 = .ok (.astore_n 3, 1) := by decide +kernel
theorem dX9_about_6 : decode cX9_about 6 = .ok (.aload_n 3, 1) := by decide +kernel
theorem dX9_about_7 : decode cX9_about 7 = .ok (.ifnonnull 5, 3) := by decide +kernel
theorem dX9_about_10 : decode cX9_about 10 = .ok (.iconst (-1), 1) := by decide +kernel
theorem dX9_about_11 : decode cX9_about 11 = .ok (.ireturn, 1) := by decide +kernel
theorem dX9_about_12 : decode cX9_about 12 = .ok (.iload_n 2, 1) := by decide +kernel
theorem dX9_about_13 : decode cX9_about 13 = .ok (.tableswitch 130 0 9 #[55, 60, 65, 70, 83, 88, 102, 107, 120, 125], 55) := by decide +kernel
theorem dX9_about_68 : decode cX9_about 68 = .ok (.aload_n 3, 1) := by decide +kernel
theorem dX9_about_69 : decode cX9_about 69 = .ok (.getfield 126, 3) := by decide +kernel
theorem dX9_about_72 : decode cX9_about 72 = .ok (.ireturn, 1) := by decide +kernel
theorem dX9_about_73 : decode cX9_about 73 = .ok (.aload_n 3, 1) := by decide +kernel
theorem dX9_about_74 : decode cX9_about 74 = .ok (.getfield 129, 3) := by decide +kernel
theorem dX9_about_77 : decode cX9_about 77 = .ok (.ireturn, 1) := by decide +kernel
theorem dX9_about_78 : decode cX9_about 78 = .ok (.aload_n 3, 1) := by decide +kernel
theorem dX9_about_79 : decode cX9_about 79 = .ok (.getfield 132, 3) := by decide +kernel
theorem dX9_about_82 : decode cX9_about 82 = .ok (.ireturn, 1) := by decide +kernel
theorem dX9_about_83 : decode cX9_about 83 = .ok (.aload_n 3, 1) := by decide +kernel
theorem dX9_about_84 : decode cX9_about 84 = .ok (.getfield 113, 3) := by decide +kernel
theorem dX9_about_87 : decode cX9_about 87 = .ok (.ifCond .eq 7, 3) := by decide +kernel
theorem dX9_about_90 : decode cX9_about 90 = .ok (.iconst 1, 1) := by decide +kernel
theorem dX9_about_91 : decode cX9_about 91 = .ok (.goto 4, 3) := by decide +kernel
theorem dX9_about_94 : decode cX9_about 94 = .ok (.iconst 0, 1) := by decide +kernel
theorem dX9_about_95 : decode cX9_about 95 = .ok (.ireturn, 1) := by decide +kernel
theorem dX9_about_96 : decode cX9_about 96 = .ok (.aload_n 3, 1) := by decide +kernel
theorem dX9_about_97 : decode cX9_about 97 = .ok (.getfield 119, 3) := by decide +kernel
theorem dX9_about_100 : decode cX9_about 100 = .ok (.ireturn, 1) := by decide +kernel
theorem dX9_about_101 : decode cX9_about 101 = .ok (.aload_n 0, 1) := by decide +kernel
theorem dX9_about_102 : decode cX9_about 102 = .ok (.aload_n 3, 1) := by decide +kernel
theorem dX9_about_103 : decode cX9_about 103 = .ok (.invokevirtual 135, 3) := by decide +kernel
theorem dX9_about_106 : decode cX9_about 106 = .ok (.ifCond .eq 7, 3) := by decide +kernel
theorem dX9_about_109 : decode cX9_about 109 = .ok (.iconst 1, 1) := by decide +kernel
theorem dX9_about_110 : decode cX9_about 110 = .ok (.goto 4, 3) := by decide +kernel
theorem dX9_about_113 : decode cX9_about 113 = .ok (.iconst 0, 1) := by decide +kernel
theorem dX9_about_114 : decode cX9_about 114 = .ok (.ireturn, 1) := by decide +kernel
theorem dX9_about_115 : decode cX9_about 115 = .ok (.aload_n 3, 1) := by decide +kernel
theorem dX9_about_116 : decode cX9_about 116 = .ok (.getfield 139, 3) := by decide +kernel
theorem dX9_about_119 : decode cX9_about 119 = .ok (.ireturn, 1) := by decide +kernel
theorem dX9_about_120 : decode cX9_about 120 = .ok (.aload_n 3, 1) := by decide +kernel
theorem dX9_about_121 : decode cX9_about 121 = .ok (.getfield 142, 3) := by decide +kernel
theorem dX9_about_124 : decode cX9_about 124 = .ok (.ifCond .eq 7, 3) := by decide +kernel
theorem dX9_about_127 : decode cX9_about 127 = .ok (.iconst 1, 1) := by decide +kernel
theorem dX9_about_128 : decode cX9_about 128 = .ok (.goto 4, 3) := by decide +kernel
theorem dX9_about_131 : decode cX9_about 131 = .ok (.iconst 0, 1) := by decide +kernel
theorem dX9_about_132 : decode cX9_about 132 = .ok (.ireturn, 1) := by decide +kernel
theorem dX9_about_133 : decode cX9_about 133 = .ok (.aload_n 3, 1) := by decide +kernel
theorem dX9_about_134 : decode cX9_about 134 = .ok (.getfield 145, 3) := by decide +kernel
theorem dX9_about_137 : decode cX9_about 137 = .ok (.ireturn, 1) := by decide +kernel
theorem dX9_about_138 : decode cX9_about 138 = .ok (.aload_n 3, 1) := by decide +kernel
theorem dX9_about_139 : decode cX9_about 139 = .ok (.getfield 148, 3) := by decide +kernel
theorem dX9_about_142 : decode cX9_about 142 = .ok (.ireturn, 1) := by decide +kernel
theorem dX9_about_143 : decode cX9_about 143 = .ok (.iconst (-1), 1) := by decide +kernel
theorem dX9_about_144 : decode cX9_about 144 = .ok (.ireturn, 1) := by decide +kernel
set_option maxRecDepth 20000 in
theorem ggX9_now_X3_clear : GoodIn wsX9_now wsX3_clear := goodIn_r _ [7, 8, 9, 10, 11, 12, 13, 14, 15, 16, 17, 18, 19, 20, 21, 22, 23, 24, 25, 58, 59, 60, 61, 62, 63, 64, 65, 66, 67, 68, 69, 70, 71, 72, 73, 74] (by decide +kernel) (by decide +kernel)
set_option maxRecDepth 20000 in
theorem gX9_now_X3_clear : GoodIn wsX9_now (wsV RX9 151 RX3 yX3_clear wsX3_clear) := goodIn_app (goodIn_of _ (by decide +kernel)) ggX9_now_X3_clear
set_option maxRecDepth 20000 in
theorem ggX9_now_X9_courtAt : GoodIn wsX9_now wsX9_courtAt := goodIn_r _ [30, 31, 47, 48, 49, 50, 51, 52, 53, 54, 55, 56, 57] (by decide +kernel) (by decide +kernel)
set_option maxRecDepth 20000 in
theorem gX9_now_X9_courtAt : GoodIn wsX9_now (wsV RX9 154 RX9 yX9_courtAt wsX9_courtAt) := goodIn_app (goodIn_of _ (by decide +kernel)) ggX9_now_X9_courtAt
set_option maxRecDepth 20000 in
theorem ggX9_now_X2_shut : GoodIn wsX9_now wsX2_shut := goodIn_r _ [36, 37, 38, 39, 40, 41, 42, 43, 44, 45, 46, 75, 76, 77, 78, 79, 80, 81, 82, 83, 84, 85, 86, 87, 88, 89, 90, 91, 92, 93, 94] (by decide +kernel) (by decide +kernel)
set_option maxRecDepth 20000 in
theorem gX9_now_X2_shut : GoodIn wsX9_now (wsV RX9 158 RX2 yX2_shut wsX2_shut) := goodIn_app (goodIn_of _ (by decide +kernel)) ggX9_now_X2_shut
theorem dX9_now_0 : decode cX9_now 0 = .ok (.iload_n 1, 1) := by decide +kernel
theorem dX9_now_1 : decode cX9_now 1 = .ok (.aload_n 0, 1) := by decide +kernel
theorem dX9_now_2 : decode cX9_now 2 = .ok (.getfield 67, 3) := by decide +kernel
theorem dX9_now_5 : decode cX9_now 5 = .ok (.if_icmp .le 10, 3) := by decide +kernel
theorem dX9_now_8 : decode cX9_now 8 = .ok (.iload_n 1, 1) := by decide +kernel
theorem dX9_now_9 : decode cX9_now 9 = .ok (.sipush 20000, 3) := by decide +kernel
theorem dX9_now_12 : decode cX9_now 12 = .ok (.if_icmp .le 6, 3) := by decide +kernel
theorem dX9_now_15 : decode cX9_now 15 = .ok (.bipush (-2), 2) := by decide +kernel
theorem dX9_now_17 : decode cX9_now 17 = .ok (.ireturn, 1) := by decide +kernel
theorem dX9_now_18 : decode cX9_now 18 = .ok (.aload_n 0, 1) := by decide +kernel
theorem dX9_now_19 : decode cX9_now 19 = .ok (.iload_n 1, 1) := by decide +kernel
theorem dX9_now_20 : decode cX9_now 20 = .ok (.putfield 67, 3) := by decide +kernel
theorem dX9_now_23 : decode cX9_now 23 = .ok (.aload_n 0, 1) := by decide +kernel
theorem dX9_now_24 : decode cX9_now 24 = .ok (.getfield 41, 3) := by decide +kernel
theorem dX9_now_27 : decode cX9_now 27 = .ok (.invokevirtual 151, 3) := by decide +kernel
theorem dX9_now_30 : decode cX9_now 30 = .ok (.iconst 0, 1) := by decide +kernel
theorem dX9_now_31 : decode cX9_now 31 = .ok (.istore_n 2, 1) := by decide +kernel
theorem dX9_now_32 : decode cX9_now 32 = .ok (.iload_n 2, 1) := by decide +kernel
theorem dX9_now_33 : decode cX9_now 33 = .ok (.iconst 5, 1) := by decide +kernel
theorem dX9_now_34 : decode cX9_now 34 = .ok (.if_icmp .ge 23, 3) := by decide +kernel
theorem dX9_now_37 : decode cX9_now 37 = .ok (.aload_n 0, 1) := by decide +kernel
theorem dX9_now_38 : decode cX9_now 38 = .ok (.iload_n 2, 1) := by decide +kernel
theorem dX9_now_39 : decode cX9_now 39 = .ok (.invokevirtual 154, 3) := by decide +kernel
theorem dX9_now_42 : decode cX9_now 42 = .ok (.astore_n 3, 1) := by decide +kernel
theorem dX9_now_43 : decode cX9_now 43 = .ok (.aload_n 3, 1) := by decide +kernel
theorem dX9_now_44 : decode cX9_now 44 = .ok (.ifnull 7, 3) := by decide +kernel
theorem dX9_now_47 : decode cX9_now 47 = .ok (.aload_n 3, 1) := by decide +kernel
theorem dX9_now_48 : decode cX9_now 48 = .ok (.invokevirtual 158, 3) := by decide +kernel
theorem dX9_now_51 : decode cX9_now 51 = .ok (.iinc 2 1, 3) := by decide +kernel
theorem dX9_now_54 : decode cX9_now 54 = .ok (.goto (-22), 3) := by decide +kernel
theorem dX9_now_57 : decode cX9_now 57 = .ok (.iload_n 1, 1) := by decide +kernel
theorem dX9_now_58 : decode cX9_now 58 = .ok (.ireturn, 1) := by decide +kernel
set_option maxRecDepth 20000 in
theorem ggX9_come_X9_citizenAt : GoodIn wsX9_come wsX9_citizenAt := goodIn_r _ [8, 9, 10, 63, 64, 65, 66, 67, 68, 69, 70, 71, 72, 73] (by decide +kernel) (by decide +kernel)
set_option maxRecDepth 20000 in
theorem gX9_come_X9_citizenAt : GoodIn wsX9_come (wsV RX9 109 RX9 yX9_citizenAt wsX9_citizenAt) := goodIn_app (goodIn_of _ (by decide +kernel)) ggX9_come_X9_citizenAt
set_option maxRecDepth 20000 in
theorem ggX9_come_X9_maySit : GoodIn wsX9_come wsX9_maySit := goodIn_r _ [14, 15, 16, 17, 18, 19, 20, 21, 22, 23, 24, 25, 26, 27, 28, 29, 30, 31, 32, 33, 34, 63, 64, 65, 66, 67, 68, 69, 70, 71, 72, 73, 53, 54, 55, 56, 57, 58, 59, 60, 61, 62, 74, 75, 76, 77, 78] (by decide +kernel) (by decide +kernel)
set_option maxRecDepth 20000 in
theorem gX9_come_X9_maySit : GoodIn wsX9_come (wsV RX9 135 RX9 yX9_maySit wsX9_maySit) := goodIn_app (goodIn_of _ (by decide +kernel)) ggX9_come_X9_maySit
set_option maxRecDepth 20000 in
theorem ggX9_come_X3_hasDrawn : GoodIn wsX9_come wsX3_hasDrawn := goodIn_r _ [39, 40, 41, 7, 42, 79, 80, 81, 82, 83, 84, 85] (by decide +kernel) (by decide +kernel)
set_option maxRecDepth 20000 in
theorem gX9_come_X3_hasDrawn : GoodIn wsX9_come (wsV RX9 161 RX3 yX3_hasDrawn wsX3_hasDrawn) := goodIn_app (goodIn_of _ (by decide +kernel)) ggX9_come_X3_hasDrawn
set_option maxRecDepth 20000 in
theorem ggX9_come_X3_admit : GoodIn wsX9_come wsX3_admit := goodIn_r _ [46, 47, 48, 49, 50, 51, 52, 53, 54, 55, 56, 57, 58, 59, 60, 61, 62, 79, 80, 81, 82, 83, 84, 85] (by decide +kernel) (by decide +kernel)
set_option maxRecDepth 20000 in
theorem gX9_come_X3_admit : GoodIn wsX9_come (wsV RX9 164 RX3 yX3_admit wsX3_admit) := goodIn_app (goodIn_of _ (by decide +kernel)) ggX9_come_X3_admit
theorem dX9_come_0 : decode cX9_come 0 = .ok (.aload_n 0, 1) := by decide +kernel
theorem dX9_come_1 : decode cX9_come 1 = .ok (.iload_n 1, 1) := by decide +kernel
theorem dX9_come_2 : decode cX9_come 2 = .ok (.invokevirtual 109, 3) := by decide +kernel
theorem dX9_come_5 : decode cX9_come 5 = .ok (.astore_n 2, 1) := by decide +kernel
theorem dX9_come_6 : decode cX9_come 6 = .ok (.aload_n 2, 1) := by decide +kernel
theorem dX9_come_7 : decode cX9_come 7 = .ok (.ifnonnull 6, 3) := by decide +kernel
theorem dX9_come_10 : decode cX9_come 10 = .ok (.bipush (-2), 2) := by decide +kernel
theorem dX9_come_12 : decode cX9_come 12 = .ok (.ireturn, 1) := by decide +kernel
theorem dX9_come_13 : decode cX9_come 13 = .ok (.aload_n 0, 1) := by decide +kernel
theorem dX9_come_14 : decode cX9_come 14 = .ok (.aload_n 2, 1) := by decide +kernel
theorem dX9_come_15 : decode cX9_come 15 = .ok (.invokevirtual 135, 3) := by decide +kernel
theorem dX9_come_18 : decode cX9_come 18 = .ok (.ifCond .eq 25, 3) := by decide +kernel
theorem dX9_come_21 : decode cX9_come 21 = .ok (.aload_n 2, 1) := by decide +kernel
theorem dX9_come_22 : decode cX9_come 22 = .ok (.getfield 139, 3) := by decide +kernel
theorem dX9_come_25 : decode cX9_come 25 = .ok (.iconst (-1), 1) := by decide +kernel
theorem dX9_come_26 : decode cX9_come 26 = .ok (.if_icmp .ne 17, 3) := by decide +kernel
theorem dX9_come_29 : decode cX9_come 29 = .ok (.aload_n 0, 1) := by decide +kernel
theorem dX9_come_30 : decode cX9_come 30 = .ok (.getfield 41, 3) := by decide +kernel
theorem dX9_come_33 : decode cX9_come 33 = .ok (.aload_n 2, 1) := by decide +kernel
theorem dX9_come_34 : decode cX9_come 34 = .ok (.getfield 126, 3) := by decide +kernel
theorem dX9_come_37 : decode cX9_come 37 = .ok (.invokevirtual 161, 3) := by decide +kernel
theorem dX9_come_40 : decode cX9_come 40 = .ok (.ifCond .eq 6, 3) := by decide +kernel
theorem dX9_come_43 : decode cX9_come 43 = .ok (.bipush (-4), 2) := by decide +kernel
theorem dX9_come_45 : decode cX9_come 45 = .ok (.ireturn, 1) := by decide +kernel
theorem dX9_come_46 : decode cX9_come 46 = .ok (.aload_n 0, 1) := by decide +kernel
theorem dX9_come_47 : decode cX9_come 47 = .ok (.getfield 41, 3) := by decide +kernel
theorem dX9_come_50 : decode cX9_come 50 = .ok (.aload_n 2, 1) := by decide +kernel
theorem dX9_come_51 : decode cX9_come 51 = .ok (.invokevirtual 164, 3) := by decide +kernel
theorem dX9_come_54 : decode cX9_come 54 = .ok (.ireturn, 1) := by decide +kernel
set_option maxRecDepth 20000 in
theorem ggX9_rows_X9_isTribe : GoodIn wsX9_rows wsX9_isTribe := goodIn_r _ [5] (by decide +kernel) (by decide +kernel)
set_option maxRecDepth 20000 in
theorem gX9_rows_X9_isTribe : GoodIn wsX9_rows (va_wsS RX9 98 yX9_isTribe wsX9_isTribe) := goodIn_app (goodIn_of _ (by decide +kernel)) ggX9_rows_X9_isTribe
set_option maxRecDepth 20000 in
theorem ggX9_rows_X3_rowsOf : GoodIn wsX9_rows wsX3_rowsOf := goodIn_r _ [10, 11, 12, 13, 14, 15, 3, 4, 5, 27, 28, 29, 30, 31, 32, 33] (by decide +kernel) (by decide +kernel)
set_option maxRecDepth 20000 in
theorem gX9_rows_X3_rowsOf : GoodIn wsX9_rows (wsV RX9 168 RX3 yX3_rowsOf wsX3_rowsOf) := goodIn_app (goodIn_of _ (by decide +kernel)) ggX9_rows_X3_rowsOf
theorem dX9_rows_0 : decode cX9_rows 0 = .ok (.iload_n 1, 1) := by decide +kernel
theorem dX9_rows_1 : decode cX9_rows 1 = .ok (.invokestatic 98, 3) := by decide +kernel
theorem dX9_rows_4 : decode cX9_rows 4 = .ok (.ifCond .eq 14, 3) := by decide +kernel
theorem dX9_rows_7 : decode cX9_rows 7 = .ok (.aload_n 0, 1) := by decide +kernel
theorem dX9_rows_8 : decode cX9_rows 8 = .ok (.getfield 41, 3) := by decide +kernel
theorem dX9_rows_11 : decode cX9_rows 11 = .ok (.iload_n 1, 1) := by decide +kernel
theorem dX9_rows_12 : decode cX9_rows 12 = .ok (.invokevirtual 168, 3) := by decide +kernel
theorem dX9_rows_15 : decode cX9_rows 15 = .ok (.goto 5, 3) := by decide +kernel
theorem dX9_rows_18 : decode cX9_rows 18 = .ok (.bipush (-2), 2) := by decide +kernel
theorem dX9_rows_20 : decode cX9_rows 20 = .ok (.ireturn, 1) := by decide +kernel
set_option maxRecDepth 20000 in
theorem ggX9_draws_X9_canDraw : GoodIn wsX9_draws wsX9_canDraw := goodIn_r _ [7, 2, 8, 9, 6, 10, 11, 12, 13, 14, 15, 16, 17, 18, 19, 20, 24, 25, 26, 27, 28, 29, 30, 31, 32, 33, 34, 35, 36, 37, 38, 39, 40, 41] (by decide +kernel) (by decide +kernel)
set_option maxRecDepth 20000 in
theorem gX9_draws_X9_canDraw : GoodIn wsX9_draws (wsV RX9 171 RX9 yX9_canDraw wsX9_canDraw) := goodIn_app (goodIn_of _ (by decide +kernel)) ggX9_draws_X9_canDraw
set_option maxRecDepth 20000 in
theorem ggX9_draws_X3_rowsOf : GoodIn wsX9_draws wsX3_rowsOf := goodIn_r _ [15, 16, 17, 18, 19, 20, 9, 6, 10, 35, 36, 37, 38, 39, 40, 41] (by decide +kernel) (by decide +kernel)
set_option maxRecDepth 20000 in
theorem gX9_draws_X3_rowsOf : GoodIn wsX9_draws (wsV RX9 168 RX3 yX3_rowsOf wsX3_rowsOf) := goodIn_app (goodIn_of _ (by decide +kernel)) ggX9_draws_X3_rowsOf
set_option maxRecDepth 20000 in
theorem ggX9_draws_X9_waysToChoose : GoodIn wsX9_draws wsX9_waysToChoose := goodIn_r _ [23] (by decide +kernel) (by decide +kernel)
set_option maxRecDepth 20000 in
theorem gX9_draws_X9_waysToChoose : GoodIn wsX9_draws (va_wsS RX9 177 yX9_waysToChoose wsX9_waysToChoose) := goodIn_app (goodIn_of _ (by decide +kernel)) ggX9_draws_X9_waysToChoose
theorem dX9_draws_0 : decode cX9_draws 0 = .ok (.aload_n 0, 1) := by decide +kernel
theorem dX9_draws_1 : decode cX9_draws 1 = .ok (.iload_n 1, 1) := by decide +kernel
theorem dX9_draws_2 : decode cX9_draws 2 = .ok (.iload_n 2, 1) := by decide +kernel
theorem dX9_draws_3 : decode cX9_draws 3 = .ok (.invokevirtual 171, 3) := by decide +kernel
theorem dX9_draws_6 : decode cX9_draws 6 = .ok (.ifCond .ne 7, 3) := by decide +kernel
theorem dX9_draws_9 : decode cX9_draws 9 = .ok (.ldc2_w 175, 3) := by decide +kernel
theorem dX9_draws_12 : decode cX9_draws 12 = .ok (.lreturn, 1) := by decide +kernel
theorem dX9_draws_13 : decode cX9_draws 13 = .ok (.aload_n 0, 1) := by decide +kernel
theorem dX9_draws_14 : decode cX9_draws 14 = .ok (.getfield 41, 3) := by decide +kernel
theorem dX9_draws_17 : decode cX9_draws 17 = .ok (.iload_n 1, 1) := by decide +kernel
theorem dX9_draws_18 : decode cX9_draws 18 = .ok (.invokevirtual 168, 3) := by decide +kernel
theorem dX9_draws_21 : decode cX9_draws 21 = .ok (.iload_n 2, 1) := by decide +kernel
theorem dX9_draws_22 : decode cX9_draws 22 = .ok (.invokestatic 177, 3) := by decide +kernel
theorem dX9_draws_25 : decode cX9_draws 25 = .ok (.lreturn, 1) := by decide +kernel
set_option maxRecDepth 20000 in
theorem ggX9_draw_X9_canDraw : GoodIn wsX9_draw wsX9_canDraw := goodIn_r _ [6, 1, 7, 8, 5, 9, 10, 11, 12, 13, 14, 15, 16, 17, 18, 19, 54, 55, 56, 57, 58, 59, 60, 61, 62, 63, 64, 65, 66, 67, 68, 69, 70, 71] (by decide +kernel) (by decide +kernel)
set_option maxRecDepth 20000 in
theorem gX9_draw_X9_canDraw : GoodIn wsX9_draw (wsV RX9 171 RX9 yX9_canDraw wsX9_canDraw) := goodIn_app (goodIn_of _ (by decide +kernel)) ggX9_draw_X9_canDraw
set_option maxRecDepth 20000 in
theorem ggX9_draw_X3_rowsOf : GoodIn wsX9_draw wsX3_rowsOf := goodIn_r _ [14, 15, 16, 17, 18, 19, 8, 5, 9, 65, 66, 67, 68, 69, 70, 71] (by decide +kernel) (by decide +kernel)
set_option maxRecDepth 20000 in
theorem gX9_draw_X3_rowsOf : GoodIn wsX9_draw (wsV RX9 168 RX3 yX3_rowsOf wsX3_rowsOf) := goodIn_app (goodIn_of _ (by decide +kernel)) ggX9_draw_X3_rowsOf
set_option maxRecDepth 20000 in
theorem ggX9_draw_X9_waysToChoose : GoodIn wsX9_draw wsX9_waysToChoose := goodIn_r _ [22] (by decide +kernel) (by decide +kernel)
set_option maxRecDepth 20000 in
theorem gX9_draw_X9_waysToChoose : GoodIn wsX9_draw (va_wsS RX9 177 yX9_waysToChoose wsX9_waysToChoose) := goodIn_app (goodIn_of _ (by decide +kernel)) ggX9_draw_X9_waysToChoose
set_option maxRecDepth 20000 in
theorem ggX9_draw_X3_hasDrawn : GoodIn wsX9_draw wsX3_hasDrawn := goodIn_r _ [26, 27, 8, 5, 9, 65, 66, 67, 68, 69, 70, 71] (by decide +kernel) (by decide +kernel)
set_option maxRecDepth 20000 in
theorem gX9_draw_X3_hasDrawn : GoodIn wsX9_draw (wsV RX9 161 RX3 yX3_hasDrawn wsX3_hasDrawn) := goodIn_app (goodIn_of _ (by decide +kernel)) ggX9_draw_X3_hasDrawn
set_option maxRecDepth 20000 in
theorem ggX9_draw_X3_chooseRows : GoodIn wsX9_draw wsX3_chooseRows := goodIn_r _ [31, 32, 27, 8, 5, 9, 33, 11, 12, 13, 14, 15, 16, 17, 18, 19, 21, 22, 34, 35, 36, 37, 38, 39, 40, 41, 42, 43, 44, 45, 46, 47, 48, 49, 50, 51, 52, 53, 65, 66, 67, 68, 69, 70, 71, 72, 73, 74, 75, 76, 77, 78, 79, 80, 81] (by decide +kernel) (by decide +kernel)
set_option maxRecDepth 20000 in
theorem gX9_draw_X3_chooseRows : GoodIn wsX9_draw (wsV RX9 181 RX3 yX3_chooseRows wsX3_chooseRows) := goodIn_app (goodIn_of _ (by decide +kernel)) ggX9_draw_X3_chooseRows
theorem dX9_draw_0 : decode cX9_draw 0 = .ok (.aload_n 0, 1) := by decide +kernel
theorem dX9_draw_1 : decode cX9_draw 1 = .ok (.iload_n 1, 1) := by decide +kernel
theorem dX9_draw_2 : decode cX9_draw 2 = .ok (.iload_n 2, 1) := by decide +kernel
theorem dX9_draw_3 : decode cX9_draw 3 = .ok (.invokevirtual 171, 3) := by decide +kernel
theorem dX9_draw_6 : decode cX9_draw 6 = .ok (.ifCond .ne 6, 3) := by decide +kernel
theorem dX9_draw_9 : decode cX9_draw 9 = .ok (.bipush (-2), 2) := by decide +kernel
theorem dX9_draw_11 : decode cX9_draw 11 = .ok (.ireturn, 1) := by decide +kernel
theorem dX9_draw_12 : decode cX9_draw 12 = .ok (.lload_n 3, 1) := by decide +kernel
theorem dX9_draw_13 : decode cX9_draw 13 = .ok (.lconst 0, 1) := by decide +kernel
theorem dX9_draw_14 : decode cX9_draw 14 = .ok (.lcmp, 1) := by decide +kernel
theorem dX9_draw_15 : decode cX9_draw 15 = .ok (.ifCond .lt 20, 3) := by decide +kernel
theorem dX9_draw_18 : decode cX9_draw 18 = .ok (.lload_n 3, 1) := by decide +kernel
theorem dX9_draw_19 : decode cX9_draw 19 = .ok (.aload_n 0, 1) := by decide +kernel
theorem dX9_draw_20 : decode cX9_draw 20 = .ok (.getfield 41, 3) := by decide +kernel
theorem dX9_draw_23 : decode cX9_draw 23 = .ok (.iload_n 1, 1) := by decide +kernel
theorem dX9_draw_24 : decode cX9_draw 24 = .ok (.invokevirtual 168, 3) := by decide +kernel
theorem dX9_draw_27 : decode cX9_draw 27 = .ok (.iload_n 2, 1) := by decide +kernel
theorem dX9_draw_28 : decode cX9_draw 28 = .ok (.invokestatic 177, 3) := by decide +kernel
theorem dX9_draw_31 : decode cX9_draw 31 = .ok (.lcmp, 1) := by decide +kernel
theorem dX9_draw_32 : decode cX9_draw 32 = .ok (.ifCond .lt 6, 3) := by decide +kernel
theorem dX9_draw_35 : decode cX9_draw 35 = .ok (.bipush (-2), 2) := by decide +kernel
theorem dX9_draw_37 : decode cX9_draw 37 = .ok (.ireturn, 1) := by decide +kernel
theorem dX9_draw_38 : decode cX9_draw 38 = .ok (.aload_n 0, 1) := by decide +kernel
theorem dX9_draw_39 : decode cX9_draw 39 = .ok (.getfield 41, 3) := by decide +kernel
theorem dX9_draw_42 : decode cX9_draw 42 = .ok (.iload_n 1, 1) := by decide +kernel
theorem dX9_draw_43 : decode cX9_draw 43 = .ok (.invokevirtual 161, 3) := by decide +kernel
theorem dX9_draw_46 : decode cX9_draw 46 = .ok (.ifCond .eq 6, 3) := by decide +kernel
theorem dX9_draw_49 : decode cX9_draw 49 = .ok (.bipush (-4), 2) := by decide +kernel
theorem dX9_draw_51 : decode cX9_draw 51 = .ok (.ireturn, 1) := by decide +kernel
theorem dX9_draw_52 : decode cX9_draw 52 = .ok (.aload_n 0, 1) := by decide +kernel
theorem dX9_draw_53 : decode cX9_draw 53 = .ok (.getfield 41, 3) := by decide +kernel
theorem dX9_draw_56 : decode cX9_draw 56 = .ok (.iload_n 1, 1) := by decide +kernel
theorem dX9_draw_57 : decode cX9_draw 57 = .ok (.iload_n 2, 1) := by decide +kernel
theorem dX9_draw_58 : decode cX9_draw 58 = .ok (.lload_n 3, 1) := by decide +kernel
theorem dX9_draw_59 : decode cX9_draw 59 = .ok (.invokevirtual 181, 3) := by decide +kernel
theorem dX9_draw_62 : decode cX9_draw 62 = .ok (.ireturn, 1) := by decide +kernel
set_option maxRecDepth 20000 in
theorem ggX9_chances_X9_citizenAt : GoodIn wsX9_chances wsX9_citizenAt := goodIn_r _ [10, 11, 12, 43, 44, 45, 46, 47, 48, 49, 50, 51, 52, 53] (by decide +kernel) (by decide +kernel)
set_option maxRecDepth 20000 in
theorem gX9_chances_X9_citizenAt : GoodIn wsX9_chances (wsV RX9 109 RX9 yX9_citizenAt wsX9_citizenAt) := goodIn_app (goodIn_of _ (by decide +kernel)) ggX9_chances_X9_citizenAt
set_option maxRecDepth 20000 in
theorem ggX9_chances_X9_canDraw : GoodIn wsX9_chances wsX9_canDraw := goodIn_r _ [16, 5, 17, 18, 9, 19, 20, 21, 22, 23, 24, 25, 26, 27, 28, 29, 43, 44, 45, 46, 47, 48, 49, 50, 51, 52, 53, 54, 55, 56, 57, 58, 59, 60] (by decide +kernel) (by decide +kernel)
set_option maxRecDepth 20000 in
theorem gX9_chances_X9_canDraw : GoodIn wsX9_chances (wsV RX9 171 RX9 yX9_canDraw wsX9_canDraw) := goodIn_app (goodIn_of _ (by decide +kernel)) ggX9_chances_X9_canDraw
set_option maxRecDepth 20000 in
theorem ggX9_chances_X3_rowsOf : GoodIn wsX9_chances wsX3_rowsOf := goodIn_r _ [24, 25, 26, 27, 28, 29, 18, 9, 19, 54, 55, 56, 57, 58, 59, 60] (by decide +kernel) (by decide +kernel)
set_option maxRecDepth 20000 in
theorem gX9_chances_X3_rowsOf : GoodIn wsX9_chances (wsV RX9 168 RX3 yX3_rowsOf wsX3_rowsOf) := goodIn_app (goodIn_of _ (by decide +kernel)) ggX9_chances_X3_rowsOf
set_option maxRecDepth 20000 in
theorem ggX9_chances_X9_waysToChoose : GoodIn wsX9_chances wsX9_waysToChoose := goodIn_r _ [32] (by decide +kernel) (by decide +kernel)
set_option maxRecDepth 20000 in
theorem gX9_chances_X9_waysToChoose : GoodIn wsX9_chances (va_wsS RX9 177 yX9_waysToChoose wsX9_waysToChoose) := goodIn_app (goodIn_of _ (by decide +kernel)) ggX9_chances_X9_waysToChoose
theorem dX9_chances_0 : decode cX9_chances 0 = .ok (.aload_n 0, 1) := by decide +kernel
theorem dX9_chances_1 : decode cX9_chances 1 = .ok (.iload_n 1, 1) := by decide +kernel
theorem dX9_chances_2 : decode cX9_chances 2 = .ok (.invokevirtual 109, 3) := by decide +kernel
theorem dX9_chances_5 : decode cX9_chances 5 = .ok (.astore_n 3, 1) := by decide +kernel
theorem dX9_chances_6 : decode cX9_chances 6 = .ok (.aload_n 3, 1) := by decide +kernel
theorem dX9_chances_7 : decode cX9_chances 7 = .ok (.ifnull 15, 3) := by decide +kernel
theorem dX9_chances_10 : decode cX9_chances 10 = .ok (.aload_n 0, 1) := by decide +kernel
theorem dX9_chances_11 : decode cX9_chances 11 = .ok (.aload_n 3, 1) := by decide +kernel
theorem dX9_chances_12 : decode cX9_chances 12 = .ok (.getfield 126, 3) := by decide +kernel
theorem dX9_chances_15 : decode cX9_chances 15 = .ok (.iload_n 2, 1) := by decide +kernel
theorem dX9_chances_16 : decode cX9_chances 16 = .ok (.invokevirtual 171, 3) := by decide +kernel
theorem dX9_chances_19 : decode cX9_chances 19 = .ok (.ifCond .ne 7, 3) := by decide +kernel
theorem dX9_chances_22 : decode cX9_chances 22 = .ok (.ldc2_w 175, 3) := by decide +kernel
theorem dX9_chances_25 : decode cX9_chances 25 = .ok (.lreturn, 1) := by decide +kernel
theorem dX9_chances_26 : decode cX9_chances 26 = .ok (.aload_n 3, 1) := by decide +kernel
theorem dX9_chances_27 : decode cX9_chances 27 = .ok (.getfield 139, 3) := by decide +kernel
theorem dX9_chances_30 : decode cX9_chances 30 = .ok (.iconst (-1), 1) := by decide +kernel
theorem dX9_chances_31 : decode cX9_chances 31 = .ok (.if_icmp .ne 7, 3) := by decide +kernel
theorem dX9_chances_34 : decode cX9_chances 34 = .ok (.ldc2_w 185, 3) := by decide +kernel
theorem dX9_chances_37 : decode cX9_chances 37 = .ok (.lreturn, 1) := by decide +kernel
theorem dX9_chances_38 : decode cX9_chances 38 = .ok (.aload_n 0, 1) := by decide +kernel
theorem dX9_chances_39 : decode cX9_chances 39 = .ok (.getfield 41, 3) := by decide +kernel
theorem dX9_chances_42 : decode cX9_chances 42 = .ok (.aload_n 3, 1) := by decide +kernel
theorem dX9_chances_43 : decode cX9_chances 43 = .ok (.getfield 126, 3) := by decide +kernel
theorem dX9_chances_46 : decode cX9_chances 46 = .ok (.invokevirtual 168, 3) := by decide +kernel
theorem dX9_chances_49 : decode cX9_chances 49 = .ok (.istore 4, 2) := by decide +kernel
theorem dX9_chances_51 : decode cX9_chances 51 = .ok (.aload_n 3, 1) := by decide +kernel
theorem dX9_chances_52 : decode cX9_chances 52 = .ok (.getfield 139, 3) := by decide +kernel
theorem dX9_chances_55 : decode cX9_chances 55 = .ok (.iload 4, 2) := by decide +kernel
theorem dX9_chances_57 : decode cX9_chances 57 = .ok (.if_icmp .ge 16, 3) := by decide +kernel
theorem dX9_chances_60 : decode cX9_chances 60 = .ok (.iload 4, 2) := by decide +kernel
theorem dX9_chances_62 : decode cX9_chances 62 = .ok (.iconst 1, 1) := by decide +kernel
theorem dX9_chances_63 : decode cX9_chances 63 = .ok (.isub, 1) := by decide +kernel
theorem dX9_chances_64 : decode cX9_chances 64 = .ok (.iload_n 2, 1) := by decide +kernel
theorem dX9_chances_65 : decode cX9_chances 65 = .ok (.iconst 1, 1) := by decide +kernel
theorem dX9_chances_66 : decode cX9_chances 66 = .ok (.isub, 1) := by decide +kernel
theorem dX9_chances_67 : decode cX9_chances 67 = .ok (.invokestatic 177, 3) := by decide +kernel
theorem dX9_chances_70 : decode cX9_chances 70 = .ok (.goto 4, 3) := by decide +kernel
theorem dX9_chances_73 : decode cX9_chances 73 = .ok (.lconst 0, 1) := by decide +kernel
theorem dX9_chances_74 : decode cX9_chances 74 = .ok (.lreturn, 1) := by decide +kernel
set_option maxRecDepth 20000 in
theorem ggX9_bribed_X9_canDraw : GoodIn wsX9_bribed wsX9_canDraw := goodIn_r _ [8, 2, 9, 10, 7, 11, 12, 13, 14, 15, 16, 17, 18, 19, 20, 21, 57, 58, 59, 60, 61, 62, 63, 64, 65, 66, 67, 68, 69, 70, 71, 72, 73, 74] (by decide +kernel) (by decide +kernel)
set_option maxRecDepth 20000 in
theorem gX9_bribed_X9_canDraw : GoodIn wsX9_bribed (wsV RX9 171 RX9 yX9_canDraw wsX9_canDraw) := goodIn_app (goodIn_of _ (by decide +kernel)) ggX9_bribed_X9_canDraw
set_option maxRecDepth 20000 in
theorem ggX9_bribed_X3_rowsOf : GoodIn wsX9_bribed wsX3_rowsOf := goodIn_r _ [16, 17, 18, 19, 20, 21, 10, 7, 11, 68, 69, 70, 71, 72, 73, 74] (by decide +kernel) (by decide +kernel)
set_option maxRecDepth 20000 in
theorem gX9_bribed_X3_rowsOf : GoodIn wsX9_bribed (wsV RX9 168 RX3 yX3_rowsOf wsX3_rowsOf) := goodIn_app (goodIn_of _ (by decide +kernel)) ggX9_bribed_X3_rowsOf
set_option maxRecDepth 20000 in
theorem ggX9_bribed_X0_fits : GoodIn wsX9_bribed wsX0_fits := goodIn_r _ [25, 26, 19, 20, 21] (by decide +kernel) (by decide +kernel)
set_option maxRecDepth 20000 in
theorem gX9_bribed_X0_fits : GoodIn wsX9_bribed (va_wsS RX9 187 yX0_fits wsX0_fits) := goodIn_app (goodIn_of _ (by decide +kernel)) ggX9_bribed_X0_fits
set_option maxRecDepth 20000 in
theorem ggX9_bribed_X0_waysWithAtLeast : GoodIn wsX9_bribed wsX0_waysWithAtLeast := goodIn_r _ [30, 31, 32, 20, 33, 34, 35, 36, 37, 24, 38, 39, 40, 41, 42, 43, 44, 45, 46, 47, 48, 49, 50, 51, 52, 53, 54, 26, 19, 21, 55, 7, 56, 75] (by decide +kernel) (by decide +kernel)
set_option maxRecDepth 20000 in
theorem gX9_bribed_X0_waysWithAtLeast : GoodIn wsX9_bribed (wsV RX9 191 RX0 yX0_waysWithAtLeast wsX0_waysWithAtLeast) := goodIn_app (goodIn_of _ (by decide +kernel)) ggX9_bribed_X0_waysWithAtLeast
theorem dX9_bribed_0 : decode cX9_bribed 0 = .ok (.aload_n 0, 1) := by decide +kernel
theorem dX9_bribed_1 : decode cX9_bribed 1 = .ok (.iload_n 1, 1) := by decide +kernel
theorem dX9_bribed_2 : decode cX9_bribed 2 = .ok (.iload_n 2, 1) := by decide +kernel
theorem dX9_bribed_3 : decode cX9_bribed 3 = .ok (.invokevirtual 171, 3) := by decide +kernel
theorem dX9_bribed_6 : decode cX9_bribed 6 = .ok (.ifCond .eq 8, 3) := by decide +kernel
theorem dX9_bribed_9 : decode cX9_bribed 9 = .ok (.iload 5, 2) := by decide +kernel
theorem dX9_bribed_11 : decode cX9_bribed 11 = .ok (.ifCond .ge 7, 3) := by decide +kernel
theorem dX9_bribed_14 : decode cX9_bribed 14 = .ok (.ldc2_w 175, 3) := by decide +kernel
theorem dX9_bribed_17 : decode cX9_bribed 17 = .ok (.lreturn, 1) := by decide +kernel
theorem dX9_bribed_18 : decode cX9_bribed 18 = .ok (.aload_n 0, 1) := by decide +kernel
theorem dX9_bribed_19 : decode cX9_bribed 19 = .ok (.getfield 41, 3) := by decide +kernel
theorem dX9_bribed_22 : decode cX9_bribed 22 = .ok (.iload_n 1, 1) := by decide +kernel
theorem dX9_bribed_23 : decode cX9_bribed 23 = .ok (.invokevirtual 168, 3) := by decide +kernel
theorem dX9_bribed_26 : decode cX9_bribed 26 = .ok (.istore 6, 2) := by decide +kernel
theorem dX9_bribed_28 : decode cX9_bribed 28 = .ok (.lload_n 3, 1) := by decide +kernel
theorem dX9_bribed_29 : decode cX9_bribed 29 = .ok (.iload 6, 2) := by decide +kernel
theorem dX9_bribed_31 : decode cX9_bribed 31 = .ok (.invokestatic 187, 3) := by decide +kernel
theorem dX9_bribed_34 : decode cX9_bribed 34 = .ok (.ifCond .ne 7, 3) := by decide +kernel
theorem dX9_bribed_37 : decode cX9_bribed 37 = .ok (.ldc2_w 175, 3) := by decide +kernel
theorem dX9_bribed_40 : decode cX9_bribed 40 = .ok (.lreturn, 1) := by decide +kernel
theorem dX9_bribed_41 : decode cX9_bribed 41 = .ok (.aload_n 0, 1) := by decide +kernel
theorem dX9_bribed_42 : decode cX9_bribed 42 = .ok (.getfield 48, 3) := by decide +kernel
theorem dX9_bribed_45 : decode cX9_bribed 45 = .ok (.iload 6, 2) := by decide +kernel
theorem dX9_bribed_47 : decode cX9_bribed 47 = .ok (.iload_n 2, 1) := by decide +kernel
theorem dX9_bribed_48 : decode cX9_bribed 48 = .ok (.lload_n 3, 1) := by decide +kernel
theorem dX9_bribed_49 : decode cX9_bribed 49 = .ok (.iload 5, 2) := by decide +kernel
theorem dX9_bribed_51 : decode cX9_bribed 51 = .ok (.invokevirtual 191, 3) := by decide +kernel
theorem dX9_bribed_54 : decode cX9_bribed 54 = .ok (.lreturn, 1) := by decide +kernel
set_option maxRecDepth 20000 in
theorem ggX9_chosen_X3_chosenAt : GoodIn wsX9_chosen wsX3_chosenAt := goodIn_r _ [7, 8, 9, 31, 32, 33, 34, 35, 36, 37] (by decide +kernel) (by decide +kernel)
set_option maxRecDepth 20000 in
theorem gX9_chosen_X3_chosenAt : GoodIn wsX9_chosen (wsV RX9 195 RX3 yX3_chosenAt wsX3_chosenAt) := goodIn_app (goodIn_of _ (by decide +kernel)) ggX9_chosen_X3_chosenAt
theorem dX9_chosen_0 : decode cX9_chosen 0 = .ok (.aload_n 0, 1) := by decide +kernel
theorem dX9_chosen_1 : decode cX9_chosen 1 = .ok (.getfield 41, 3) := by decide +kernel
theorem dX9_chosen_4 : decode cX9_chosen 4 = .ok (.iload_n 1, 1) := by decide +kernel
theorem dX9_chosen_5 : decode cX9_chosen 5 = .ok (.invokevirtual 195, 3) := by decide +kernel
theorem dX9_chosen_8 : decode cX9_chosen 8 = .ok (.astore_n 2, 1) := by decide +kernel
theorem dX9_chosen_9 : decode cX9_chosen 9 = .ok (.aload_n 2, 1) := by decide +kernel
theorem dX9_chosen_10 : decode cX9_chosen 10 = .ok (.ifnonnull 7, 3) := by decide +kernel
theorem dX9_chosen_13 : decode cX9_chosen 13 = .ok (.iconst (-1), 1) := by decide +kernel
theorem dX9_chosen_14 : decode cX9_chosen 14 = .ok (.goto 7, 3) := by decide +kernel
theorem dX9_chosen_17 : decode cX9_chosen 17 = .ok (.aload_n 2, 1) := by decide +kernel
theorem dX9_chosen_18 : decode cX9_chosen 18 = .ok (.getfield 198, 3) := by decide +kernel
theorem dX9_chosen_21 : decode cX9_chosen 21 = .ok (.ireturn, 1) := by decide +kernel
set_option maxRecDepth 20000 in
theorem ggX9_open_X9_courtAt : GoodIn wsX9_open wsX9_courtAt := goodIn_r _ [6, 7, 12, 13, 14, 15, 16, 17, 18, 19, 20, 21, 22] (by decide +kernel) (by decide +kernel)
set_option maxRecDepth 20000 in
theorem gX9_open_X9_courtAt : GoodIn wsX9_open (wsV RX9 154 RX9 yX9_courtAt wsX9_courtAt) := goodIn_app (goodIn_of _ (by decide +kernel)) ggX9_open_X9_courtAt
theorem dX9_open_0 : decode cX9_open 0 = .ok (.aload_n 0, 1) := by decide +kernel
theorem dX9_open_1 : decode cX9_open 1 = .ok (.iload_n 1, 1) := by decide +kernel
theorem dX9_open_2 : decode cX9_open 2 = .ok (.invokevirtual 154, 3) := by decide +kernel
theorem dX9_open_5 : decode cX9_open 5 = .ok (.astore_n 3, 1) := by decide +kernel
theorem dX9_open_6 : decode cX9_open 6 = .ok (.aload_n 3, 1) := by decide +kernel
theorem dX9_open_7 : decode cX9_open 7 = .ok (.ifnull 20, 3) := by decide +kernel
theorem dX9_open_10 : decode cX9_open 10 = .ok (.iload_n 2, 1) := by decide +kernel
theorem dX9_open_11 : decode cX9_open 11 = .ok (.iconst 1, 1) := by decide +kernel
theorem dX9_open_12 : decode cX9_open 12 = .ok (.if_icmp .lt 15, 3) := by decide +kernel
theorem dX9_open_15 : decode cX9_open 15 = .ok (.iload_n 2, 1) := by decide +kernel
theorem dX9_open_16 : decode cX9_open 16 = .ok (.bipush 25, 2) := by decide +kernel
theorem dX9_open_18 : decode cX9_open 18 = .ok (.if_icmp .gt 9, 3) := by decide +kernel
theorem dX9_open_21 : decode cX9_open 21 = .ok (.iload_n 2, 1) := by decide +kernel
theorem dX9_open_22 : decode cX9_open 22 = .ok (.iconst 2, 1) := by decide +kernel
theorem dX9_open_23 : decode cX9_open 23 = .ok (.irem, 1) := by decide +kernel
theorem dX9_open_24 : decode cX9_open 24 = .ok (.ifCond .ne 6, 3) := by decide +kernel
theorem dX9_open_27 : decode cX9_open 27 = .ok (.bipush (-2), 2) := by decide +kernel
theorem dX9_open_29 : decode cX9_open 29 = .ok (.ireturn, 1) := by decide +kernel
theorem dX9_open_30 : decode cX9_open 30 = .ok (.aload_n 3, 1) := by decide +kernel
theorem dX9_open_31 : decode cX9_open 31 = .ok (.getfield 201, 3) := by decide +kernel
theorem dX9_open_34 : decode cX9_open 34 = .ok (.ifCond .le 6, 3) := by decide +kernel
theorem dX9_open_37 : decode cX9_open 37 = .ok (.bipush (-4), 2) := by decide +kernel
theorem dX9_open_39 : decode cX9_open 39 = .ok (.ireturn, 1) := by decide +kernel
theorem dX9_open_40 : decode cX9_open 40 = .ok (.aload_n 3, 1) := by decide +kernel
theorem dX9_open_41 : decode cX9_open 41 = .ok (.iload_n 2, 1) := by decide +kernel
theorem dX9_open_42 : decode cX9_open 42 = .ok (.putfield 201, 3) := by decide +kernel
theorem dX9_open_45 : decode cX9_open 45 = .ok (.iload_n 2, 1) := by decide +kernel
theorem dX9_open_46 : decode cX9_open 46 = .ok (.ireturn, 1) := by decide +kernel
set_option maxRecDepth 20000 in
theorem ggX9_lot_X9_courtAt : GoodIn wsX9_lot wsX9_courtAt := goodIn_r _ [10, 11, 35, 36, 37, 38, 39, 40, 41, 42, 43, 44, 45] (by decide +kernel) (by decide +kernel)
set_option maxRecDepth 20000 in
theorem gX9_lot_X9_courtAt : GoodIn wsX9_lot (wsV RX9 154 RX9 yX9_courtAt wsX9_courtAt) := goodIn_app (goodIn_of _ (by decide +kernel)) ggX9_lot_X9_courtAt
set_option maxRecDepth 20000 in
theorem ggX9_lot_X2_isFull : GoodIn wsX9_lot wsX2_isFull := goodIn_r _ [16, 17, 18, 31, 32, 33, 34] (by decide +kernel) (by decide +kernel)
set_option maxRecDepth 20000 in
theorem gX9_lot_X2_isFull : GoodIn wsX9_lot (wsV RX9 204 RX2 yX2_isFull wsX2_isFull) := goodIn_app (goodIn_of _ (by decide +kernel)) ggX9_lot_X2_isFull
set_option maxRecDepth 20000 in
theorem ggX9_lot_X3_chosenAt : GoodIn wsX9_lot wsX3_chosenAt := goodIn_r _ [23, 24, 25, 46, 47, 48, 49, 50, 51, 52] (by decide +kernel) (by decide +kernel)
set_option maxRecDepth 20000 in
theorem gX9_lot_X3_chosenAt : GoodIn wsX9_lot (wsV RX9 195 RX3 yX3_chosenAt wsX3_chosenAt) := goodIn_app (goodIn_of _ (by decide +kernel)) ggX9_lot_X3_chosenAt
set_option maxRecDepth 20000 in
theorem ggX9_lot_X2_take : GoodIn wsX9_lot wsX2_take := goodIn_r _ [29, 17, 30, 31, 32, 33, 34] (by decide +kernel) (by decide +kernel)
set_option maxRecDepth 20000 in
theorem gX9_lot_X2_take : GoodIn wsX9_lot (wsV RX9 210 RX2 yX2_take wsX2_take) := goodIn_app (goodIn_of _ (by decide +kernel)) ggX9_lot_X2_take
theorem dX9_lot_0 : decode cX9_lot 0 = .ok (.aload_n 0, 1) := by decide +kernel
theorem dX9_lot_1 : decode cX9_lot 1 = .ok (.iload_n 1, 1) := by decide +kernel
theorem dX9_lot_2 : decode cX9_lot 2 = .ok (.invokevirtual 154, 3) := by decide +kernel
theorem dX9_lot_5 : decode cX9_lot 5 = .ok (.astore_n 2, 1) := by decide +kernel
theorem dX9_lot_6 : decode cX9_lot 6 = .ok (.aload_n 2, 1) := by decide +kernel
theorem dX9_lot_7 : decode cX9_lot 7 = .ok (.ifnonnull 6, 3) := by decide +kernel
theorem dX9_lot_10 : decode cX9_lot 10 = .ok (.bipush (-2), 2) := by decide +kernel
theorem dX9_lot_12 : decode cX9_lot 12 = .ok (.ireturn, 1) := by decide +kernel
theorem dX9_lot_13 : decode cX9_lot 13 = .ok (.aload_n 2, 1) := by decide +kernel
theorem dX9_lot_14 : decode cX9_lot 14 = .ok (.getfield 201, 3) := by decide +kernel
theorem dX9_lot_17 : decode cX9_lot 17 = .ok (.ifCond .eq 10, 3) := by decide +kernel
theorem dX9_lot_20 : decode cX9_lot 20 = .ok (.aload_n 2, 1) := by decide +kernel
theorem dX9_lot_21 : decode cX9_lot 21 = .ok (.invokevirtual 204, 3) := by decide +kernel
theorem dX9_lot_24 : decode cX9_lot 24 = .ok (.ifCond .eq 6, 3) := by decide +kernel
theorem dX9_lot_27 : decode cX9_lot 27 = .ok (.bipush (-4), 2) := by decide +kernel
theorem dX9_lot_29 : decode cX9_lot 29 = .ok (.ireturn, 1) := by decide +kernel
theorem dX9_lot_30 : decode cX9_lot 30 = .ok (.aload_n 0, 1) := by decide +kernel
theorem dX9_lot_31 : decode cX9_lot 31 = .ok (.getfield 41, 3) := by decide +kernel
theorem dX9_lot_34 : decode cX9_lot 34 = .ok (.aload_n 0, 1) := by decide +kernel
theorem dX9_lot_35 : decode cX9_lot 35 = .ok (.getfield 41, 3) := by decide +kernel
theorem dX9_lot_38 : decode cX9_lot 38 = .ok (.getfield 207, 3) := by decide +kernel
theorem dX9_lot_41 : decode cX9_lot 41 = .ok (.invokevirtual 195, 3) := by decide +kernel
theorem dX9_lot_44 : decode cX9_lot 44 = .ok (.astore_n 3, 1) := by decide +kernel
theorem dX9_lot_45 : decode cX9_lot 45 = .ok (.aload_n 3, 1) := by decide +kernel
theorem dX9_lot_46 : decode cX9_lot 46 = .ok (.ifnonnull 5, 3) := by decide +kernel
theorem dX9_lot_49 : decode cX9_lot 49 = .ok (.iconst (-1), 1) := by decide +kernel
theorem dX9_lot_50 : decode cX9_lot 50 = .ok (.ireturn, 1) := by decide +kernel
theorem dX9_lot_51 : decode cX9_lot 51 = .ok (.aload_n 0, 1) := by decide +kernel
theorem dX9_lot_52 : decode cX9_lot 52 = .ok (.getfield 41, 3) := by decide +kernel
theorem dX9_lot_55 : decode cX9_lot 55 = .ok (.dup, 1) := by decide +kernel
theorem dX9_lot_56 : decode cX9_lot 56 = .ok (.getfield 207, 3) := by decide +kernel
theorem dX9_lot_59 : decode cX9_lot 59 = .ok (.iconst 1, 1) := by decide +kernel
theorem dX9_lot_60 : decode cX9_lot 60 = .ok (.iadd, 1) := by decide +kernel
theorem dX9_lot_61 : decode cX9_lot 61 = .ok (.putfield 207, 3) := by decide +kernel
theorem dX9_lot_64 : decode cX9_lot 64 = .ok (.aload_n 3, 1) := by decide +kernel
theorem dX9_lot_65 : decode cX9_lot 65 = .ok (.iload_n 1, 1) := by decide +kernel
theorem dX9_lot_66 : decode cX9_lot 66 = .ok (.putfield 145, 3) := by decide +kernel
theorem dX9_lot_69 : decode cX9_lot 69 = .ok (.aload_n 2, 1) := by decide +kernel
theorem dX9_lot_70 : decode cX9_lot 70 = .ok (.aload_n 3, 1) := by decide +kernel
theorem dX9_lot_71 : decode cX9_lot 71 = .ok (.getfield 198, 3) := by decide +kernel
theorem dX9_lot_74 : decode cX9_lot 74 = .ok (.invokevirtual 210, 3) := by decide +kernel
theorem dX9_lot_77 : decode cX9_lot 77 = .ok (.aload_n 3, 1) := by decide +kernel
theorem dX9_lot_78 : decode cX9_lot 78 = .ok (.getfield 198, 3) := by decide +kernel
theorem dX9_lot_81 : decode cX9_lot 81 = .ok (.ireturn, 1) := by decide +kernel
set_option maxRecDepth 20000 in
theorem ggX9_seat_X9_courtAt : GoodIn wsX9_seat wsX9_courtAt := goodIn_r _ [5, 6, 14, 15, 16, 17, 18, 19, 20, 21, 22, 23, 24] (by decide +kernel) (by decide +kernel)
set_option maxRecDepth 20000 in
theorem gX9_seat_X9_courtAt : GoodIn wsX9_seat (wsV RX9 154 RX9 yX9_courtAt wsX9_courtAt) := goodIn_app (goodIn_of _ (by decide +kernel)) ggX9_seat_X9_courtAt
set_option maxRecDepth 20000 in
theorem ggX9_seat_X2_sitterAt : GoodIn wsX9_seat wsX2_sitterAt := goodIn_r _ [11, 12, 13, 25, 26, 27, 28] (by decide +kernel) (by decide +kernel)
set_option maxRecDepth 20000 in
theorem gX9_seat_X2_sitterAt : GoodIn wsX9_seat (wsV RX9 213 RX2 yX2_sitterAt wsX2_sitterAt) := goodIn_app (goodIn_of _ (by decide +kernel)) ggX9_seat_X2_sitterAt
theorem dX9_seat_0 : decode cX9_seat 0 = .ok (.aload_n 0, 1) := by decide +kernel
theorem dX9_seat_1 : decode cX9_seat 1 = .ok (.iload_n 1, 1) := by decide +kernel
theorem dX9_seat_2 : decode cX9_seat 2 = .ok (.invokevirtual 154, 3) := by decide +kernel
theorem dX9_seat_5 : decode cX9_seat 5 = .ok (.astore_n 3, 1) := by decide +kernel
theorem dX9_seat_6 : decode cX9_seat 6 = .ok (.aload_n 3, 1) := by decide +kernel
theorem dX9_seat_7 : decode cX9_seat 7 = .ok (.ifnonnull 7, 3) := by decide +kernel
theorem dX9_seat_10 : decode cX9_seat 10 = .ok (.iconst (-1), 1) := by decide +kernel
theorem dX9_seat_11 : decode cX9_seat 11 = .ok (.goto 8, 3) := by decide +kernel
theorem dX9_seat_14 : decode cX9_seat 14 = .ok (.aload_n 3, 1) := by decide +kernel
theorem dX9_seat_15 : decode cX9_seat 15 = .ok (.iload_n 2, 1) := by decide +kernel
theorem dX9_seat_16 : decode cX9_seat 16 = .ok (.invokevirtual 213, 3) := by decide +kernel
theorem dX9_seat_19 : decode cX9_seat 19 = .ok (.ireturn, 1) := by decide +kernel
set_option maxRecDepth 20000 in
theorem ggX9_suit_X9_courtAt : GoodIn wsX9_suit wsX9_courtAt := goodIn_r _ [11, 12, 111, 112, 113, 114, 115, 116, 117, 118, 119, 120, 121] (by decide +kernel) (by decide +kernel)
set_option maxRecDepth 20000 in
theorem gX9_suit_X9_courtAt : GoodIn wsX9_suit (wsV RX9 154 RX9 yX9_courtAt wsX9_courtAt) := goodIn_app (goodIn_of _ (by decide +kernel)) ggX9_suit_X9_courtAt
set_option maxRecDepth 20000 in
theorem ggX9_suit_X9_canBeParty : GoodIn wsX9_suit wsX9_canBeParty := goodIn_r _ [16, 17, 18, 19, 10, 20, 21, 22, 23, 24, 25, 26, 27, 28, 29, 111, 112, 113, 114, 115, 116, 117, 118, 119, 120, 121, 91, 92, 93, 94] (by decide +kernel) (by decide +kernel)
set_option maxRecDepth 20000 in
theorem gX9_suit_X9_canBeParty : GoodIn wsX9_suit (wsV RX9 217 RX9 yX9_canBeParty wsX9_canBeParty) := goodIn_app (goodIn_of _ (by decide +kernel)) ggX9_suit_X9_canBeParty
set_option maxRecDepth 20000 in
theorem ggX9_suit_X2_isFull : GoodIn wsX9_suit wsX2_isFull := goodIn_r _ [33, 28, 34, 91, 92, 93, 94] (by decide +kernel) (by decide +kernel)
set_option maxRecDepth 20000 in
theorem gX9_suit_X2_isFull : GoodIn wsX9_suit (wsV RX9 204 RX2 yX2_isFull wsX2_isFull) := goodIn_app (goodIn_of _ (by decide +kernel)) ggX9_suit_X2_isFull
set_option maxRecDepth 20000 in
theorem ggX9_suit_X4_inForce : GoodIn wsX9_suit wsX4_inForce := goodIn_r _ [39, 40, 41, 42, 43, 122, 123, 124, 125, 126] (by decide +kernel) (by decide +kernel)
set_option maxRecDepth 20000 in
theorem gX9_suit_X4_inForce : GoodIn wsX9_suit (wsV RX9 88 RX4 yX4_inForce wsX4_inForce) := goodIn_app (goodIn_of _ (by decide +kernel)) ggX9_suit_X4_inForce
set_option maxRecDepth 20000 in
theorem ggX9_suit_X6_waterOf : GoodIn wsX9_suit wsX6_waterOf := goodIn_r _ [48, 49, 50, 51, 47, 52, 53, 125, 126] (by decide +kernel) (by decide +kernel)
set_option maxRecDepth 20000 in
theorem gX9_suit_X6_waterOf : GoodIn wsX9_suit (wsV RX9 230 RX6 yX6_waterOf wsX6_waterOf) := goodIn_app (goodIn_of _ (by decide +kernel)) ggX9_suit_X6_waterOf
set_option maxRecDepth 20000 in
theorem ggX9_suit_X7_begin : GoodIn wsX9_suit wsX7_begin := goodIn_r _ [58, 59, 60, 61, 62, 63, 64, 95, 96, 97, 98, 99, 100, 101, 102, 103, 104, 105, 106, 107, 108, 109, 110] (by decide +kernel) (by decide +kernel)
set_option maxRecDepth 20000 in
theorem gX9_suit_X7_begin : GoodIn wsX9_suit (wsV RX9 234 RX7 yX7_begin wsX7_begin) := goodIn_app (goodIn_of _ (by decide +kernel)) ggX9_suit_X7_begin
set_option maxRecDepth 20000 in
theorem ggX9_suit_X7_prepare : GoodIn wsX9_suit wsX7_prepare := goodIn_r _ [68, 69, 70, 71, 72, 73, 74, 75, 76, 77, 78, 79, 80, 81, 82, 83, 84, 85, 86, 57, 87, 88, 89, 90, 95, 96, 97, 98, 99, 100, 101, 102, 103, 104, 105, 106, 107, 108, 109, 110] (by decide +kernel) (by decide +kernel)
set_option maxRecDepth 20000 in
theorem gX9_suit_X7_prepare : GoodIn wsX9_suit (wsV RX9 237 RX7 yX7_prepare wsX7_prepare) := goodIn_app (goodIn_of _ (by decide +kernel)) ggX9_suit_X7_prepare
theorem dX9_suit_0 : decode cX9_suit 0 = .ok (.aload_n 0, 1) := by decide +kernel
theorem dX9_suit_1 : decode cX9_suit 1 = .ok (.iload_n 1, 1) := by decide +kernel
theorem dX9_suit_2 : decode cX9_suit 2 = .ok (.invokevirtual 154, 3) := by decide +kernel
theorem dX9_suit_5 : decode cX9_suit 5 = .ok (.astore 6, 2) := by decide +kernel
theorem dX9_suit_7 : decode cX9_suit 7 = .ok (.aload 6, 2) := by decide +kernel
theorem dX9_suit_9 : decode cX9_suit 9 = .ok (.ifnull 25, 3) := by decide +kernel
theorem dX9_suit_12 : decode cX9_suit 12 = .ok (.iload_n 2, 1) := by decide +kernel
theorem dX9_suit_13 : decode cX9_suit 13 = .ok (.ifCond .lt 21, 3) := by decide +kernel
theorem dX9_suit_16 : decode cX9_suit 16 = .ok (.iload_n 2, 1) := by decide +kernel
theorem dX9_suit_17 : decode cX9_suit 17 = .ok (.bipush 6, 2) := by decide +kernel
theorem dX9_suit_19 : decode cX9_suit 19 = .ok (.if_icmp .ge 15, 3) := by decide +kernel
theorem dX9_suit_22 : decode cX9_suit 22 = .ok (.iload 5, 2) := by decide +kernel
theorem dX9_suit_24 : decode cX9_suit 24 = .ok (.ifCond .lt 10, 3) := by decide +kernel
theorem dX9_suit_27 : decode cX9_suit 27 = .ok (.iload 5, 2) := by decide +kernel
theorem dX9_suit_29 : decode cX9_suit 29 = .ok (.ldc 216, 2) := by decide +kernel
theorem dX9_suit_31 : decode cX9_suit 31 = .ok (.if_icmp .le 6, 3) := by decide +kernel
theorem dX9_suit_34 : decode cX9_suit 34 = .ok (.bipush (-2), 2) := by decide +kernel
theorem dX9_suit_36 : decode cX9_suit 36 = .ok (.ireturn, 1) := by decide +kernel
theorem dX9_suit_37 : decode cX9_suit 37 = .ok (.iload_n 3, 1) := by decide +kernel
theorem dX9_suit_38 : decode cX9_suit 38 = .ok (.iload 4, 2) := by decide +kernel
theorem dX9_suit_40 : decode cX9_suit 40 = .ok (.if_icmp .eq 24, 3) := by decide +kernel
theorem dX9_suit_43 : decode cX9_suit 43 = .ok (.aload_n 0, 1) := by decide +kernel
theorem dX9_suit_44 : decode cX9_suit 44 = .ok (.aload 6, 2) := by decide +kernel
theorem dX9_suit_46 : decode cX9_suit 46 = .ok (.iload_n 3, 1) := by decide +kernel
theorem dX9_suit_47 : decode cX9_suit 47 = .ok (.invokevirtual 217, 3) := by decide +kernel
theorem dX9_suit_50 : decode cX9_suit 50 = .ok (.ifCond .eq 14, 3) := by decide +kernel
theorem dX9_suit_53 : decode cX9_suit 53 = .ok (.aload_n 0, 1) := by decide +kernel
theorem dX9_suit_54 : decode cX9_suit 54 = .ok (.aload 6, 2) := by decide +kernel
theorem dX9_suit_56 : decode cX9_suit 56 = .ok (.iload 4, 2) := by decide +kernel
theorem dX9_suit_58 : decode cX9_suit 58 = .ok (.invokevirtual 217, 3) := by decide +kernel
theorem dX9_suit_61 : decode cX9_suit 61 = .ok (.ifCond .ne 6, 3) := by decide +kernel
theorem dX9_suit_64 : decode cX9_suit 64 = .ok (.bipush (-2), 2) := by decide +kernel
theorem dX9_suit_66 : decode cX9_suit 66 = .ok (.ireturn, 1) := by decide +kernel
theorem dX9_suit_67 : decode cX9_suit 67 = .ok (.aload 6, 2) := by decide +kernel
theorem dX9_suit_69 : decode cX9_suit 69 = .ok (.getfield 201, 3) := by decide +kernel
theorem dX9_suit_72 : decode cX9_suit 72 = .ok (.ifCond .eq 22, 3) := by decide +kernel
theorem dX9_suit_75 : decode cX9_suit 75 = .ok (.aload 6, 2) := by decide +kernel
theorem dX9_suit_77 : decode cX9_suit 77 = .ok (.invokevirtual 204, 3) := by decide +kernel
theorem dX9_suit_80 : decode cX9_suit 80 = .ok (.ifCond .eq 14, 3) := by decide +kernel
theorem dX9_suit_83 : decode cX9_suit 83 = .ok (.aload 6, 2) := by decide +kernel
theorem dX9_suit_85 : decode cX9_suit 85 = .ok (.getfield 221, 3) := by decide +kernel
theorem dX9_suit_88 : decode cX9_suit 88 = .ok (.getfield 225, 3) := by decide +kernel
theorem dX9_suit_91 : decode cX9_suit 91 = .ok (.ifCond .eq 6, 3) := by decide +kernel
theorem dX9_suit_94 : decode cX9_suit 94 = .ok (.bipush (-4), 2) := by decide +kernel
theorem dX9_suit_96 : decode cX9_suit 96 = .ok (.ireturn, 1) := by decide +kernel
theorem dX9_suit_97 : decode cX9_suit 97 = .ok (.aload_n 0, 1) := by decide +kernel
theorem dX9_suit_98 : decode cX9_suit 98 = .ok (.getfield 28, 3) := by decide +kernel
theorem dX9_suit_101 : decode cX9_suit 101 = .ok (.aload_n 0, 1) := by decide +kernel
theorem dX9_suit_102 : decode cX9_suit 102 = .ok (.getfield 67, 3) := by decide +kernel
theorem dX9_suit_105 : decode cX9_suit 105 = .ok (.invokevirtual 88, 3) := by decide +kernel
theorem dX9_suit_108 : decode cX9_suit 108 = .ok (.iload_n 2, 1) := by decide +kernel
theorem dX9_suit_109 : decode cX9_suit 109 = .ok (.iload 5, 2) := by decide +kernel
theorem dX9_suit_111 : decode cX9_suit 111 = .ok (.invokevirtual 230, 3) := by decide +kernel
theorem dX9_suit_114 : decode cX9_suit 114 = .ok (.istore 7, 2) := by decide +kernel
theorem dX9_suit_116 : decode cX9_suit 116 = .ok (.aload 6, 2) := by decide +kernel
theorem dX9_suit_118 : decode cX9_suit 118 = .ok (.getfield 221, 3) := by decide +kernel
theorem dX9_suit_121 : decode cX9_suit 121 = .ok (.iload_n 2, 1) := by decide +kernel
theorem dX9_suit_122 : decode cX9_suit 122 = .ok (.iload_n 3, 1) := by decide +kernel
theorem dX9_suit_123 : decode cX9_suit 123 = .ok (.iload 4, 2) := by decide +kernel
theorem dX9_suit_125 : decode cX9_suit 125 = .ok (.iload 5, 2) := by decide +kernel
theorem dX9_suit_127 : decode cX9_suit 127 = .ok (.invokevirtual 234, 3) := by decide +kernel
theorem dX9_suit_130 : decode cX9_suit 130 = .ok (.aload 6, 2) := by decide +kernel
theorem dX9_suit_132 : decode cX9_suit 132 = .ok (.getfield 221, 3) := by decide +kernel
theorem dX9_suit_135 : decode cX9_suit 135 = .ok (.aload 6, 2) := by decide +kernel
theorem dX9_suit_137 : decode cX9_suit 137 = .ok (.getfield 201, 3) := by decide +kernel
theorem dX9_suit_140 : decode cX9_suit 140 = .ok (.iload 7, 2) := by decide +kernel
theorem dX9_suit_142 : decode cX9_suit 142 = .ok (.invokevirtual 237, 3) := by decide +kernel
theorem dX9_suit_145 : decode cX9_suit 145 = .ok (.iload 7, 2) := by decide +kernel
theorem dX9_suit_147 : decode cX9_suit 147 = .ok (.ireturn, 1) := by decide +kernel
set_option maxRecDepth 20000 in
theorem ggX9_speak_X9_courtAt : GoodIn wsX9_speak wsX9_courtAt := goodIn_r _ [6, 7, 22, 23, 24, 25, 26, 27, 28, 29, 30, 31, 32] (by decide +kernel) (by decide +kernel)
set_option maxRecDepth 20000 in
theorem gX9_speak_X9_courtAt : GoodIn wsX9_speak (wsV RX9 154 RX9 yX9_courtAt wsX9_courtAt) := goodIn_app (goodIn_of _ (by decide +kernel)) ggX9_speak_X9_courtAt
set_option maxRecDepth 20000 in
theorem ggX9_speak_X7_hearWords : GoodIn wsX9_speak wsX7_hearWords := goodIn_r _ [12, 13, 14, 15, 16, 17, 33, 34, 35, 36, 37, 38, 39, 40, 41, 42, 43, 44, 45, 46, 47, 48] (by decide +kernel) (by decide +kernel)
set_option maxRecDepth 20000 in
theorem gX9_speak_X7_hearWords : GoodIn wsX9_speak (wsV RX9 241 RX7 yX7_hearWords wsX7_hearWords) := goodIn_app (goodIn_of _ (by decide +kernel)) ggX9_speak_X7_hearWords
theorem dX9_speak_0 : decode cX9_speak 0 = .ok (.aload_n 0, 1) := by decide +kernel
theorem dX9_speak_1 : decode cX9_speak 1 = .ok (.iload_n 1, 1) := by decide +kernel
theorem dX9_speak_2 : decode cX9_speak 2 = .ok (.invokevirtual 154, 3) := by decide +kernel
theorem dX9_speak_5 : decode cX9_speak 5 = .ok (.astore 4, 2) := by decide +kernel
theorem dX9_speak_7 : decode cX9_speak 7 = .ok (.aload 4, 2) := by decide +kernel
theorem dX9_speak_9 : decode cX9_speak 9 = .ok (.ifnull 24, 3) := by decide +kernel
theorem dX9_speak_12 : decode cX9_speak 12 = .ok (.iload_n 2, 1) := by decide +kernel
theorem dX9_speak_13 : decode cX9_speak 13 = .ok (.ifCond .lt 20, 3) := by decide +kernel
theorem dX9_speak_16 : decode cX9_speak 16 = .ok (.iload_n 2, 1) := by decide +kernel
theorem dX9_speak_17 : decode cX9_speak 17 = .ok (.iconst 1, 1) := by decide +kernel
theorem dX9_speak_18 : decode cX9_speak 18 = .ok (.if_icmp .gt 15, 3) := by decide +kernel
theorem dX9_speak_21 : decode cX9_speak 21 = .ok (.iload_n 3, 1) := by decide +kernel
theorem dX9_speak_22 : decode cX9_speak 22 = .ok (.iconst 1, 1) := by decide +kernel
theorem dX9_speak_23 : decode cX9_speak 23 = .ok (.if_icmp .lt 10, 3) := by decide +kernel
theorem dX9_speak_26 : decode cX9_speak 26 = .ok (.iload_n 3, 1) := by decide +kernel
theorem dX9_speak_27 : decode cX9_speak 27 = .ok (.sipush 1000, 3) := by decide +kernel
theorem dX9_speak_30 : decode cX9_speak 30 = .ok (.if_icmp .le 6, 3) := by decide +kernel
theorem dX9_speak_33 : decode cX9_speak 33 = .ok (.bipush (-2), 2) := by decide +kernel
theorem dX9_speak_35 : decode cX9_speak 35 = .ok (.ireturn, 1) := by decide +kernel
theorem dX9_speak_36 : decode cX9_speak 36 = .ok (.aload 4, 2) := by decide +kernel
theorem dX9_speak_38 : decode cX9_speak 38 = .ok (.getfield 221, 3) := by decide +kernel
theorem dX9_speak_41 : decode cX9_speak 41 = .ok (.iload_n 2, 1) := by decide +kernel
theorem dX9_speak_42 : decode cX9_speak 42 = .ok (.iload_n 3, 1) := by decide +kernel
theorem dX9_speak_43 : decode cX9_speak 43 = .ok (.invokevirtual 241, 3) := by decide +kernel
theorem dX9_speak_46 : decode cX9_speak 46 = .ok (.ireturn, 1) := by decide +kernel
set_option maxRecDepth 20000 in
theorem ggX9_witness_X9_courtAt : GoodIn wsX9_witness wsX9_courtAt := goodIn_r _ [6, 7, 20, 21, 22, 23, 24, 25, 26, 27, 28, 29, 30] (by decide +kernel) (by decide +kernel)
set_option maxRecDepth 20000 in
theorem gX9_witness_X9_courtAt : GoodIn wsX9_witness (wsV RX9 154 RX9 yX9_courtAt wsX9_courtAt) := goodIn_app (goodIn_of _ (by decide +kernel)) ggX9_witness_X9_courtAt
set_option maxRecDepth 20000 in
theorem ggX9_witness_X7_turnWitness : GoodIn wsX9_witness wsX7_turnWitness := goodIn_r _ [12, 13, 14, 15, 31, 32, 33, 34, 35, 36, 37, 38, 39, 40, 41, 42, 43, 44, 45, 46] (by decide +kernel) (by decide +kernel)
set_option maxRecDepth 20000 in
theorem gX9_witness_X7_turnWitness : GoodIn wsX9_witness (wsV RX9 244 RX7 yX7_turnWitness wsX7_turnWitness) := goodIn_app (goodIn_of _ (by decide +kernel)) ggX9_witness_X7_turnWitness
theorem dX9_witness_0 : decode cX9_witness 0 = .ok (.aload_n 0, 1) := by decide +kernel
theorem dX9_witness_1 : decode cX9_witness 1 = .ok (.iload_n 1, 1) := by decide +kernel
