theorem dX9_witness_2 : decode cX9_witness 2 = .ok (.invokevirtual 154, 3) := by decide +kernel
theorem dX9_witness_5 : decode cX9_witness 5 = .ok (.astore_n 2, 1) := by decide +kernel
theorem dX9_witness_6 : decode cX9_witness 6 = .ok (.aload_n 2, 1) := by decide +kernel
theorem dX9_witness_7 : decode cX9_witness 7 = .ok (.ifnonnull 8, 3) := by decide +kernel
theorem dX9_witness_10 : decode cX9_witness 10 = .ok (.bipush (-2), 2) := by decide +kernel
theorem dX9_witness_12 : decode cX9_witness 12 = .ok (.goto 10, 3) := by decide +kernel
theorem dX9_witness_15 : decode cX9_witness 15 = .ok (.aload_n 2, 1) := by decide +kernel
theorem dX9_witness_16 : decode cX9_witness 16 = .ok (.getfield 221, 3) := by decide +kernel
theorem dX9_witness_19 : decode cX9_witness 19 = .ok (.invokevirtual 244, 3) := by decide +kernel
theorem dX9_witness_22 : decode cX9_witness 22 = .ok (.ireturn, 1) := by decide +kernel
set_option maxRecDepth 20000 in
theorem ggX9_disc_X9_courtAt : GoodIn wsX9_disc wsX9_courtAt := goodIn_r _ [6, 7, 46, 47, 48, 49, 50, 51, 52, 53, 54, 55, 56] (by decide +kernel) (by decide +kernel)
set_option maxRecDepth 20000 in
theorem gX9_disc_X9_courtAt : GoodIn wsX9_disc (wsV RX9 154 RX9 yX9_courtAt wsX9_courtAt) := goodIn_app (goodIn_of _ (by decide +kernel)) ggX9_disc_X9_courtAt
set_option maxRecDepth 20000 in
theorem ggX9_disc_X2_seatOf : GoodIn wsX9_disc wsX2_seatOf := goodIn_r _ [12, 13, 14, 42, 43, 44, 45] (by decide +kernel) (by decide +kernel)
set_option maxRecDepth 20000 in
theorem gX9_disc_X2_seatOf : GoodIn wsX9_disc (wsV RX9 248 RX2 yX2_seatOf wsX2_seatOf) := goodIn_app (goodIn_of _ (by decide +kernel)) ggX9_disc_X2_seatOf
set_option maxRecDepth 20000 in
theorem ggX9_disc_X7_takeDisc : GoodIn wsX9_disc wsX7_takeDisc := goodIn_r _ [19, 20, 21, 22, 23, 24, 25, 26, 27, 28, 18, 29, 30, 31, 32, 33, 34, 35, 36, 37, 38, 39, 40, 41, 57, 58, 59, 60, 61, 62, 63, 64, 65, 66, 67, 68, 69, 70, 71, 72] (by decide +kernel) (by decide +kernel)
set_option maxRecDepth 20000 in
theorem gX9_disc_X7_takeDisc : GoodIn wsX9_disc (wsV RX9 251 RX7 yX7_takeDisc wsX7_takeDisc) := goodIn_app (goodIn_of _ (by decide +kernel)) ggX9_disc_X7_takeDisc
theorem dX9_disc_0 : decode cX9_disc 0 = .ok (.aload_n 0, 1) := by decide +kernel
theorem dX9_disc_1 : decode cX9_disc 1 = .ok (.iload_n 1, 1) := by decide +kernel
theorem dX9_disc_2 : decode cX9_disc 2 = .ok (.invokevirtual 154, 3) := by decide +kernel
theorem dX9_disc_5 : decode cX9_disc 5 = .ok (.astore 4, 2) := by decide +kernel
theorem dX9_disc_7 : decode cX9_disc 7 = .ok (.aload 4, 2) := by decide +kernel
theorem dX9_disc_9 : decode cX9_disc 9 = .ok (.ifnull 12, 3) := by decide +kernel
theorem dX9_disc_12 : decode cX9_disc 12 = .ok (.iload_n 3, 1) := by decide +kernel
theorem dX9_disc_13 : decode cX9_disc 13 = .ok (.ifCond .lt 8, 3) := by decide +kernel
theorem dX9_disc_16 : decode cX9_disc 16 = .ok (.iload_n 3, 1) := by decide +kernel
theorem dX9_disc_17 : decode cX9_disc 17 = .ok (.iconst 1, 1) := by decide +kernel
theorem dX9_disc_18 : decode cX9_disc 18 = .ok (.if_icmp .le 6, 3) := by decide +kernel
theorem dX9_disc_21 : decode cX9_disc 21 = .ok (.bipush (-2), 2) := by decide +kernel
theorem dX9_disc_23 : decode cX9_disc 23 = .ok (.ireturn, 1) := by decide +kernel
theorem dX9_disc_24 : decode cX9_disc 24 = .ok (.aload 4, 2) := by decide +kernel
theorem dX9_disc_26 : decode cX9_disc 26 = .ok (.getfield 221, 3) := by decide +kernel
theorem dX9_disc_29 : decode cX9_disc 29 = .ok (.aload 4, 2) := by decide +kernel
theorem dX9_disc_31 : decode cX9_disc 31 = .ok (.iload_n 2, 1) := by decide +kernel
theorem dX9_disc_32 : decode cX9_disc 32 = .ok (.invokevirtual 248, 3) := by decide +kernel
theorem dX9_disc_35 : decode cX9_disc 35 = .ok (.iload_n 3, 1) := by decide +kernel
theorem dX9_disc_36 : decode cX9_disc 36 = .ok (.invokevirtual 251, 3) := by decide +kernel
theorem dX9_disc_39 : decode cX9_disc 39 = .ok (.ireturn, 1) := by decide +kernel
set_option maxRecDepth 20000 in
theorem ggX9_close_X9_courtAt : GoodIn wsX9_close wsX9_courtAt := goodIn_r _ [15, 16, 132, 133, 134, 135, 136, 137, 138, 139, 140, 141, 142] (by decide +kernel) (by decide +kernel)
set_option maxRecDepth 20000 in
theorem gX9_close_X9_courtAt : GoodIn wsX9_close (wsV RX9 154 RX9 yX9_courtAt wsX9_courtAt) := goodIn_app (goodIn_of _ (by decide +kernel)) ggX9_close_X9_courtAt
set_option maxRecDepth 20000 in
theorem ggX9_close_X7_wanting : GoodIn wsX9_close wsX7_wanting := goodIn_r _ [21, 22, 23, 24, 25, 20, 26, 27, 28, 29, 30, 31, 32, 33, 34, 35, 36, 116, 117, 118, 119, 120, 121, 122, 123, 124, 125, 126, 127, 128, 129, 130, 131] (by decide +kernel) (by decide +kernel)
set_option maxRecDepth 20000 in
theorem gX9_close_X7_wanting : GoodIn wsX9_close (wsV RX9 254 RX7 yX7_wanting wsX7_wanting) := goodIn_app (goodIn_of _ (by decide +kernel)) ggX9_close_X7_wanting
set_option maxRecDepth 20000 in
theorem ggX9_close_X4_inForce : GoodIn wsX9_close wsX4_inForce := goodIn_r _ [41, 42, 43, 44, 45, 153, 154, 155, 156, 157] (by decide +kernel) (by decide +kernel)
set_option maxRecDepth 20000 in
theorem gX9_close_X4_inForce : GoodIn wsX9_close (wsV RX9 88 RX4 yX4_inForce wsX4_inForce) := goodIn_app (goodIn_of _ (by decide +kernel)) ggX9_close_X4_inForce
set_option maxRecDepth 20000 in
theorem ggX9_close_X7_judge : GoodIn wsX9_close wsX7_judge := goodIn_r _ [49, 50, 51, 52, 53, 54, 55, 56, 23, 24, 25, 20, 26, 22, 27, 28, 29, 30, 31, 32, 57, 58, 59, 60, 61, 62, 63, 64, 65, 66, 67, 68, 69, 70, 116, 117, 118, 119, 120, 121, 122, 123, 124, 125, 126, 127, 128, 129, 130, 131, 156, 157] (by decide +kernel) (by decide +kernel)
set_option maxRecDepth 20000 in
theorem gX9_close_X7_judge : GoodIn wsX9_close (wsV RX9 257 RX7 yX7_judge wsX7_judge) := goodIn_app (goodIn_of _ (by decide +kernel)) ggX9_close_X7_judge
set_option maxRecDepth 20000 in
theorem ggX9_close_X9_citizenAt : GoodIn wsX9_close wsX9_citizenAt := goodIn_r _ [74, 75, 76, 132, 133, 134, 135, 136, 137, 138, 139, 140, 141, 142] (by decide +kernel) (by decide +kernel)
set_option maxRecDepth 20000 in
theorem gX9_close_X9_citizenAt : GoodIn wsX9_close (wsV RX9 109 RX9 yX9_citizenAt wsX9_citizenAt) := goodIn_app (goodIn_of _ (by decide +kernel)) ggX9_close_X9_citizenAt
set_option maxRecDepth 20000 in
theorem ggX9_close_X7_forgetVerdict : GoodIn wsX9_close wsX7_forgetVerdict := goodIn_r _ [80, 50, 51, 52, 116, 117, 118, 119, 120, 121, 122, 123, 124, 125, 126, 127, 128, 129, 130, 131] (by decide +kernel) (by decide +kernel)
set_option maxRecDepth 20000 in
theorem gX9_close_X7_forgetVerdict : GoodIn wsX9_close (wsV RX9 267 RX7 yX7_forgetVerdict wsX7_forgetVerdict) := goodIn_app (goodIn_of _ (by decide +kernel)) ggX9_close_X7_forgetVerdict
set_option maxRecDepth 20000 in
theorem ggX9_close_X6_answer : GoodIn wsX9_close wsX6_answer := goodIn_r _ [65, 66, 156, 157] (by decide +kernel) (by decide +kernel)
set_option maxRecDepth 20000 in
theorem gX9_close_X6_answer : GoodIn wsX9_close (wsV RX9 92 RX6 yX6_answer wsX6_answer) := goodIn_app (goodIn_of _ (by decide +kernel)) ggX9_close_X6_answer
set_option maxRecDepth 20000 in
theorem ggX9_close_X9_payDiscs : GoodIn wsX9_close wsX9_payDiscs := goodIn_r _ [85, 86, 1, 87, 88, 89, 90, 91, 92, 93, 94, 95, 71, 72, 73, 14, 74, 75, 76, 96, 28, 29, 20, 30, 22, 31, 32, 112, 113, 114, 115, 143, 144, 145, 146, 147, 148, 149, 150, 151, 152, 132, 133, 134, 135, 136, 137, 138, 139, 140, 141, 142, 116, 117, 118, 119, 120, 121, 122, 123, 124, 125, 126, 127, 128, 129, 130, 131] (by decide +kernel) (by decide +kernel)
set_option maxRecDepth 20000 in
theorem gX9_close_X9_payDiscs : GoodIn wsX9_close (wsV RX9 273 RX9 yX9_payDiscs wsX9_payDiscs) := goodIn_app (goodIn_of _ (by decide +kernel)) ggX9_close_X9_payDiscs
set_option maxRecDepth 20000 in
theorem ggX9_close_X9_addDebt : GoodIn wsX9_close wsX9_addDebt := goodIn_r _ [100, 8, 101, 1, 102, 11, 12, 13, 14, 15, 16, 103, 104, 105, 92, 106, 94, 95, 107, 108, 109, 20, 110, 111, 22, 31, 143, 144, 145, 146, 147, 148, 149, 150, 151, 152, 112, 113, 114, 115, 132, 133, 134, 135, 136, 137, 138, 139, 140, 141, 142, 116, 117, 118, 119, 120, 121, 122, 123, 124, 125, 126, 127, 128, 129, 130, 131] (by decide +kernel) (by decide +kernel)
set_option maxRecDepth 20000 in
theorem gX9_close_X9_addDebt : GoodIn wsX9_close (wsV RX9 122 RX9 yX9_addDebt wsX9_addDebt) := goodIn_app (goodIn_of _ (by decide +kernel)) ggX9_close_X9_addDebt
theorem dX9_close_0 : decode cX9_close 0 = .ok (.aload_n 0, 1) := by decide +kernel
theorem dX9_close_1 : decode cX9_close 1 = .ok (.iload_n 1, 1) := by decide +kernel
theorem dX9_close_2 : decode cX9_close 2 = .ok (.invokevirtual 154, 3) := by decide +kernel
theorem dX9_close_5 : decode cX9_close 5 = .ok (.astore_n 2, 1) := by decide +kernel
theorem dX9_close_6 : decode cX9_close 6 = .ok (.aload_n 2, 1) := by decide +kernel
theorem dX9_close_7 : decode cX9_close 7 = .ok (.ifnonnull 6, 3) := by decide +kernel
theorem dX9_close_10 : decode cX9_close 10 = .ok (.bipush (-2), 2) := by decide +kernel
theorem dX9_close_12 : decode cX9_close 12 = .ok (.ireturn, 1) := by decide +kernel
theorem dX9_close_13 : decode cX9_close 13 = .ok (.aload_n 2, 1) := by decide +kernel
theorem dX9_close_14 : decode cX9_close 14 = .ok (.getfield 221, 3) := by decide +kernel
theorem dX9_close_17 : decode cX9_close 17 = .ok (.astore_n 3, 1) := by decide +kernel
theorem dX9_close_18 : decode cX9_close 18 = .ok (.aload_n 3, 1) := by decide +kernel
theorem dX9_close_19 : decode cX9_close 19 = .ok (.getfield 225, 3) := by decide +kernel
theorem dX9_close_22 : decode cX9_close 22 = .ok (.ifCond .eq 10, 3) := by decide +kernel
theorem dX9_close_25 : decode cX9_close 25 = .ok (.aload_n 3, 1) := by decide +kernel
theorem dX9_close_26 : decode cX9_close 26 = .ok (.invokevirtual 254, 3) := by decide +kernel
theorem dX9_close_29 : decode cX9_close 29 = .ok (.ifCond .le 6, 3) := by decide +kernel
theorem dX9_close_32 : decode cX9_close 32 = .ok (.bipush (-4), 2) := by decide +kernel
theorem dX9_close_34 : decode cX9_close 34 = .ok (.ireturn, 1) := by decide +kernel
theorem dX9_close_35 : decode cX9_close 35 = .ok (.aload_n 0, 1) := by decide +kernel
theorem dX9_close_36 : decode cX9_close 36 = .ok (.getfield 28, 3) := by decide +kernel
theorem dX9_close_39 : decode cX9_close 39 = .ok (.aload_n 0, 1) := by decide +kernel
theorem dX9_close_40 : decode cX9_close 40 = .ok (.getfield 67, 3) := by decide +kernel
theorem dX9_close_43 : decode cX9_close 43 = .ok (.invokevirtual 88, 3) := by decide +kernel
theorem dX9_close_46 : decode cX9_close 46 = .ok (.astore 4, 2) := by decide +kernel
theorem dX9_close_48 : decode cX9_close 48 = .ok (.aload_n 3, 1) := by decide +kernel
theorem dX9_close_49 : decode cX9_close 49 = .ok (.aload 4, 2) := by decide +kernel
theorem dX9_close_51 : decode cX9_close 51 = .ok (.invokevirtual 257, 3) := by decide +kernel
theorem dX9_close_54 : decode cX9_close 54 = .ok (.aload_n 0, 1) := by decide +kernel
theorem dX9_close_55 : decode cX9_close 55 = .ok (.aload_n 3, 1) := by decide +kernel
theorem dX9_close_56 : decode cX9_close 56 = .ok (.getfield 261, 3) := by decide +kernel
theorem dX9_close_59 : decode cX9_close 59 = .ok (.invokevirtual 109, 3) := by decide +kernel
theorem dX9_close_62 : decode cX9_close 62 = .ok (.astore 5, 2) := by decide +kernel
theorem dX9_close_64 : decode cX9_close 64 = .ok (.aload 5, 2) := by decide +kernel
theorem dX9_close_66 : decode cX9_close 66 = .ok (.ifnull 25, 3) := by decide +kernel
theorem dX9_close_69 : decode cX9_close 69 = .ok (.aload_n 3, 1) := by decide +kernel
theorem dX9_close_70 : decode cX9_close 70 = .ok (.getfield 264, 3) := by decide +kernel
theorem dX9_close_73 : decode cX9_close 73 = .ok (.ldc 118, 2) := by decide +kernel
theorem dX9_close_75 : decode cX9_close 75 = .ok (.aload 5, 2) := by decide +kernel
theorem dX9_close_77 : decode cX9_close 77 = .ok (.getfield 119, 3) := by decide +kernel
theorem dX9_close_80 : decode cX9_close 80 = .ok (.isub, 1) := by decide +kernel
theorem dX9_close_81 : decode cX9_close 81 = .ok (.if_icmp .le 10, 3) := by decide +kernel
theorem dX9_close_84 : decode cX9_close 84 = .ok (.aload_n 3, 1) := by decide +kernel
theorem dX9_close_85 : decode cX9_close 85 = .ok (.invokevirtual 267, 3) := by decide +kernel
theorem dX9_close_88 : decode cX9_close 88 = .ok (.bipush (-3), 2) := by decide +kernel
theorem dX9_close_90 : decode cX9_close 90 = .ok (.ireturn, 1) := by decide +kernel
theorem dX9_close_91 : decode cX9_close 91 = .ok (.aload_n 3, 1) := by decide +kernel
theorem dX9_close_92 : decode cX9_close 92 = .ok (.iconst 0, 1) := by decide +kernel
theorem dX9_close_93 : decode cX9_close 93 = .ok (.putfield 225, 3) := by decide +kernel
theorem dX9_close_96 : decode cX9_close 96 = .ok (.aload_n 0, 1) := by decide +kernel
theorem dX9_close_97 : decode cX9_close 97 = .ok (.dup, 1) := by decide +kernel
theorem dX9_close_98 : decode cX9_close 98 = .ok (.getfield 270, 3) := by decide +kernel
theorem dX9_close_101 : decode cX9_close 101 = .ok (.iconst 1, 1) := by decide +kernel
theorem dX9_close_102 : decode cX9_close 102 = .ok (.iadd, 1) := by decide +kernel
theorem dX9_close_103 : decode cX9_close 103 = .ok (.putfield 270, 3) := by decide +kernel
theorem dX9_close_106 : decode cX9_close 106 = .ok (.aload_n 0, 1) := by decide +kernel
theorem dX9_close_107 : decode cX9_close 107 = .ok (.aload_n 2, 1) := by decide +kernel
theorem dX9_close_108 : decode cX9_close 108 = .ok (.aload 4, 2) := by decide +kernel
theorem dX9_close_110 : decode cX9_close 110 = .ok (.iconst 1, 1) := by decide +kernel
theorem dX9_close_111 : decode cX9_close 111 = .ok (.invokevirtual 92, 3) := by decide +kernel
theorem dX9_close_114 : decode cX9_close 114 = .ok (.invokevirtual 273, 3) := by decide +kernel
theorem dX9_close_117 : decode cX9_close 117 = .ok (.aload 5, 2) := by decide +kernel
theorem dX9_close_119 : decode cX9_close 119 = .ok (.ifnull 13, 3) := by decide +kernel
theorem dX9_close_122 : decode cX9_close 122 = .ok (.aload_n 0, 1) := by decide +kernel
theorem dX9_close_123 : decode cX9_close 123 = .ok (.aload 5, 2) := by decide +kernel
theorem dX9_close_125 : decode cX9_close 125 = .ok (.aload_n 3, 1) := by decide +kernel
theorem dX9_close_126 : decode cX9_close 126 = .ok (.getfield 264, 3) := by decide +kernel
theorem dX9_close_129 : decode cX9_close 129 = .ok (.invokevirtual 122, 3) := by decide +kernel
theorem dX9_close_132 : decode cX9_close 132 = .ok (.aload_n 3, 1) := by decide +kernel
theorem dX9_close_133 : decode cX9_close 133 = .ok (.getfield 277, 3) := by decide +kernel
theorem dX9_close_136 : decode cX9_close 136 = .ok (.ireturn, 1) := by decide +kernel
set_option maxRecDepth 20000 in
theorem ggX9_court_X9_courtAt : GoodIn wsX9_court wsX9_courtAt := goodIn_r _ [9, 10, 69, 70, 71, 72, 73, 74, 75, 76, 77, 78, 79] (by decide +kernel) (by decide +kernel)
set_option maxRecDepth 20000 in
theorem gX9_court_X9_courtAt : GoodIn wsX9_court (wsV RX9 154 RX9 yX9_courtAt wsX9_courtAt) := goodIn_app (goodIn_of _ (by decide +kernel)) ggX9_court_X9_courtAt
set_option maxRecDepth 20000 in
theorem ggX9_court_X7_answer : GoodIn wsX9_court wsX7_answer := goodIn_r _ [15, 16, 17, 18, 19, 20, 21, 22, 23, 24, 25, 26, 27, 28, 14, 29, 30, 31, 32, 33, 34, 35, 36, 37, 38, 39, 40, 41, 42, 43, 44, 45, 46, 47, 48, 53, 54, 55, 56, 57, 58, 59, 60, 61, 62, 63, 64, 65, 66, 67, 68] (by decide +kernel) (by decide +kernel)
set_option maxRecDepth 20000 in
theorem gX9_court_X7_answer : GoodIn wsX9_court (wsV RX9 283 RX7 yX7_answer wsX7_answer) := goodIn_app (goodIn_of _ (by decide +kernel)) ggX9_court_X7_answer
theorem dX9_court_0 : decode cX9_court 0 = .ok (.aload_n 0, 1) := by decide +kernel
theorem dX9_court_1 : decode cX9_court 1 = .ok (.iload_n 1, 1) := by decide +kernel
theorem dX9_court_2 : decode cX9_court 2 = .ok (.invokevirtual 154, 3) := by decide +kernel
theorem dX9_court_5 : decode cX9_court 5 = .ok (.astore_n 3, 1) := by decide +kernel
theorem dX9_court_6 : decode cX9_court 6 = .ok (.aload_n 3, 1) := by decide +kernel
theorem dX9_court_7 : decode cX9_court 7 = .ok (.ifnonnull 5, 3) := by decide +kernel
theorem dX9_court_10 : decode cX9_court 10 = .ok (.iconst (-1), 1) := by decide +kernel
theorem dX9_court_11 : decode cX9_court 11 = .ok (.ireturn, 1) := by decide +kernel
theorem dX9_court_12 : decode cX9_court 12 = .ok (.iload_n 2, 1) := by decide +kernel
theorem dX9_court_13 : decode cX9_court 13 = .ok (.tableswitch 53 0 2 #[27, 32, 37], 27) := by decide +kernel
theorem dX9_court_40 : decode cX9_court 40 = .ok (.aload_n 3, 1) := by decide +kernel
theorem dX9_court_41 : decode cX9_court 41 = .ok (.getfield 201, 3) := by decide +kernel
theorem dX9_court_44 : decode cX9_court 44 = .ok (.ireturn, 1) := by decide +kernel
theorem dX9_court_45 : decode cX9_court 45 = .ok (.aload_n 3, 1) := by decide +kernel
theorem dX9_court_46 : decode cX9_court 46 = .ok (.getfield 280, 3) := by decide +kernel
theorem dX9_court_49 : decode cX9_court 49 = .ok (.ireturn, 1) := by decide +kernel
theorem dX9_court_50 : decode cX9_court 50 = .ok (.aload_n 3, 1) := by decide +kernel
theorem dX9_court_51 : decode cX9_court 51 = .ok (.getfield 221, 3) := by decide +kernel
theorem dX9_court_54 : decode cX9_court 54 = .ok (.getfield 225, 3) := by decide +kernel
theorem dX9_court_57 : decode cX9_court 57 = .ok (.ifCond .eq 7, 3) := by decide +kernel
theorem dX9_court_60 : decode cX9_court 60 = .ok (.iconst 1, 1) := by decide +kernel
theorem dX9_court_61 : decode cX9_court 61 = .ok (.goto 4, 3) := by decide +kernel
theorem dX9_court_64 : decode cX9_court 64 = .ok (.iconst 0, 1) := by decide +kernel
theorem dX9_court_65 : decode cX9_court 65 = .ok (.ireturn, 1) := by decide +kernel
theorem dX9_court_66 : decode cX9_court 66 = .ok (.aload_n 3, 1) := by decide +kernel
theorem dX9_court_67 : decode cX9_court 67 = .ok (.getfield 221, 3) := by decide +kernel
theorem dX9_court_70 : decode cX9_court 70 = .ok (.iload_n 2, 1) := by decide +kernel
theorem dX9_court_71 : decode cX9_court 71 = .ok (.invokevirtual 283, 3) := by decide +kernel
theorem dX9_court_74 : decode cX9_court 74 = .ok (.ireturn, 1) := by decide +kernel
theorem dX9_count_0 : decode cX9_count 0 = .ok (.iload_n 1, 1) := by decide +kernel
theorem dX9_count_1 : decode cX9_count 1 = .ok (.tableswitch 111 0 8 #[51, 56, 61, 69, 77, 85, 93, 101, 106], 51) := by decide +kernel
theorem dX9_count_52 : decode cX9_count 52 = .ok (.aload_n 0, 1) := by decide +kernel
theorem dX9_count_53 : decode cX9_count 53 = .ok (.getfield 103, 3) := by decide +kernel
theorem dX9_count_56 : decode cX9_count 56 = .ok (.ireturn, 1) := by decide +kernel
theorem dX9_count_57 : decode cX9_count 57 = .ok (.aload_n 0, 1) := by decide +kernel
theorem dX9_count_58 : decode cX9_count 58 = .ok (.getfield 67, 3) := by decide +kernel
theorem dX9_count_61 : decode cX9_count 61 = .ok (.ireturn, 1) := by decide +kernel
theorem dX9_count_62 : decode cX9_count 62 = .ok (.aload_n 0, 1) := by decide +kernel
theorem dX9_count_63 : decode cX9_count 63 = .ok (.getfield 41, 3) := by decide +kernel
theorem dX9_count_66 : decode cX9_count 66 = .ok (.getfield 284, 3) := by decide +kernel
theorem dX9_count_69 : decode cX9_count 69 = .ok (.ireturn, 1) := by decide +kernel
theorem dX9_count_70 : decode cX9_count 70 = .ok (.aload_n 0, 1) := by decide +kernel
theorem dX9_count_71 : decode cX9_count 71 = .ok (.getfield 41, 3) := by decide +kernel
theorem dX9_count_74 : decode cX9_count 74 = .ok (.getfield 287, 3) := by decide +kernel
theorem dX9_count_77 : decode cX9_count 77 = .ok (.ireturn, 1) := by decide +kernel
theorem dX9_count_78 : decode cX9_count 78 = .ok (.aload_n 0, 1) := by decide +kernel
theorem dX9_count_79 : decode cX9_count 79 = .ok (.getfield 41, 3) := by decide +kernel
theorem dX9_count_82 : decode cX9_count 82 = .ok (.getfield 207, 3) := by decide +kernel
theorem dX9_count_85 : decode cX9_count 85 = .ok (.ireturn, 1) := by decide +kernel
theorem dX9_count_86 : decode cX9_count 86 = .ok (.aload_n 0, 1) := by decide +kernel
theorem dX9_count_87 : decode cX9_count 87 = .ok (.getfield 28, 3) := by decide +kernel
theorem dX9_count_90 : decode cX9_count 90 = .ok (.getfield 290, 3) := by decide +kernel
theorem dX9_count_93 : decode cX9_count 93 = .ok (.ireturn, 1) := by decide +kernel
theorem dX9_count_94 : decode cX9_count 94 = .ok (.aload_n 0, 1) := by decide +kernel
theorem dX9_count_95 : decode cX9_count 95 = .ok (.getfield 10, 3) := by decide +kernel
theorem dX9_count_98 : decode cX9_count 98 = .ok (.getfield 59, 3) := by decide +kernel
theorem dX9_count_101 : decode cX9_count 101 = .ok (.ireturn, 1) := by decide +kernel
theorem dX9_count_102 : decode cX9_count 102 = .ok (.aload_n 0, 1) := by decide +kernel
theorem dX9_count_103 : decode cX9_count 103 = .ok (.getfield 270, 3) := by decide +kernel
theorem dX9_count_106 : decode cX9_count 106 = .ok (.ireturn, 1) := by decide +kernel
theorem dX9_count_107 : decode cX9_count 107 = .ok (.aload_n 0, 1) := by decide +kernel
theorem dX9_count_108 : decode cX9_count 108 = .ok (.getfield 291, 3) := by decide +kernel
theorem dX9_count_111 : decode cX9_count 111 = .ok (.ireturn, 1) := by decide +kernel
theorem dX9_count_112 : decode cX9_count 112 = .ok (.iconst (-1), 1) := by decide +kernel
theorem dX9_count_113 : decode cX9_count 113 = .ok (.ireturn, 1) := by decide +kernel
theorem dX9_isTribe_0 : decode cX9_isTribe 0 = .ok (.iload_n 0, 1) := by decide +kernel
theorem dX9_isTribe_1 : decode cX9_isTribe 1 = .ok (.ifCond .lt 13, 3) := by decide +kernel
theorem dX9_isTribe_4 : decode cX9_isTribe 4 = .ok (.iload_n 0, 1) := by decide +kernel
theorem dX9_isTribe_5 : decode cX9_isTribe 5 = .ok (.bipush 10, 2) := by decide +kernel
theorem dX9_isTribe_7 : decode cX9_isTribe 7 = .ok (.if_icmp .ge 7, 3) := by decide +kernel
theorem dX9_isTribe_10 : decode cX9_isTribe 10 = .ok (.iconst 1, 1) := by decide +kernel
theorem dX9_isTribe_11 : decode cX9_isTribe 11 = .ok (.goto 4, 3) := by decide +kernel
theorem dX9_isTribe_14 : decode cX9_isTribe 14 = .ok (.iconst 0, 1) := by decide +kernel
theorem dX9_isTribe_15 : decode cX9_isTribe 15 = .ok (.ireturn, 1) := by decide +kernel
set_option maxRecDepth 20000 in
theorem ggX9_canDraw_X9_isTribe : GoodIn wsX9_canDraw wsX9_isTribe := goodIn_r _ [5] (by decide +kernel) (by decide +kernel)
set_option maxRecDepth 20000 in
theorem gX9_canDraw_X9_isTribe : GoodIn wsX9_canDraw (va_wsS RX9 98 yX9_isTribe wsX9_isTribe) := goodIn_app (goodIn_of _ (by decide +kernel)) ggX9_canDraw_X9_isTribe
set_option maxRecDepth 20000 in
theorem ggX9_canDraw_X3_rowsOf : GoodIn wsX9_canDraw wsX3_rowsOf := goodIn_r _ [10, 11, 12, 13, 14, 15, 3, 4, 5, 27, 28, 29, 30, 31, 32, 33] (by decide +kernel) (by decide +kernel)
set_option maxRecDepth 20000 in
theorem gX9_canDraw_X3_rowsOf : GoodIn wsX9_canDraw (wsV RX9 168 RX3 yX3_rowsOf wsX3_rowsOf) := goodIn_app (goodIn_of _ (by decide +kernel)) ggX9_canDraw_X3_rowsOf
theorem dX9_canDraw_0 : decode cX9_canDraw 0 = .ok (.iload_n 1, 1) := by decide +kernel
theorem dX9_canDraw_1 : decode cX9_canDraw 1 = .ok (.invokestatic 98, 3) := by decide +kernel
theorem dX9_canDraw_4 : decode cX9_canDraw 4 = .ok (.ifCond .eq 23, 3) := by decide +kernel
theorem dX9_canDraw_7 : decode cX9_canDraw 7 = .ok (.iload_n 2, 1) := by decide +kernel
theorem dX9_canDraw_8 : decode cX9_canDraw 8 = .ok (.ifCond .lt 19, 3) := by decide +kernel
theorem dX9_canDraw_11 : decode cX9_canDraw 11 = .ok (.iload_n 2, 1) := by decide +kernel
theorem dX9_canDraw_12 : decode cX9_canDraw 12 = .ok (.aload_n 0, 1) := by decide +kernel
theorem dX9_canDraw_13 : decode cX9_canDraw 13 = .ok (.getfield 41, 3) := by decide +kernel
theorem dX9_canDraw_16 : decode cX9_canDraw 16 = .ok (.iload_n 1, 1) := by decide +kernel
theorem dX9_canDraw_17 : decode cX9_canDraw 17 = .ok (.invokevirtual 168, 3) := by decide +kernel
theorem dX9_canDraw_20 : decode cX9_canDraw 20 = .ok (.if_icmp .gt 7, 3) := by decide +kernel
theorem dX9_canDraw_23 : decode cX9_canDraw 23 = .ok (.iconst 1, 1) := by decide +kernel
theorem dX9_canDraw_24 : decode cX9_canDraw 24 = .ok (.goto 4, 3) := by decide +kernel
theorem dX9_canDraw_27 : decode cX9_canDraw 27 = .ok (.iconst 0, 1) := by decide +kernel
theorem dX9_canDraw_28 : decode cX9_canDraw 28 = .ok (.ireturn, 1) := by decide +kernel
theorem dX9_citizenAt_0 : decode cX9_citizenAt 0 = .ok (.iload_n 1, 1) := by decide +kernel
theorem dX9_citizenAt_1 : decode cX9_citizenAt 1 = .ok (.ifCond .lt 20, 3) := by decide +kernel
theorem dX9_citizenAt_4 : decode cX9_citizenAt 4 = .ok (.iload_n 1, 1) := by decide +kernel
theorem dX9_citizenAt_5 : decode cX9_citizenAt 5 = .ok (.aload_n 0, 1) := by decide +kernel
theorem dX9_citizenAt_6 : decode cX9_citizenAt 6 = .ok (.getfield 103, 3) := by decide +kernel
theorem dX9_citizenAt_9 : decode cX9_citizenAt 9 = .ok (.if_icmp .ge 12, 3) := by decide +kernel
theorem dX9_citizenAt_12 : decode cX9_citizenAt 12 = .ok (.aload_n 0, 1) := by decide +kernel
theorem dX9_citizenAt_13 : decode cX9_citizenAt 13 = .ok (.getfield 34, 3) := by decide +kernel
theorem dX9_citizenAt_16 : decode cX9_citizenAt 16 = .ok (.iload_n 1, 1) := by decide +kernel
theorem dX9_citizenAt_17 : decode cX9_citizenAt 17 = .ok (.aaload, 1) := by decide +kernel
theorem dX9_citizenAt_18 : decode cX9_citizenAt 18 = .ok (.goto 4, 3) := by decide +kernel
theorem dX9_citizenAt_21 : decode cX9_citizenAt 21 = .ok (.aconst_null, 1) := by decide +kernel
theorem dX9_citizenAt_22 : decode cX9_citizenAt 22 = .ok (.areturn, 1) := by decide +kernel
theorem dX9_courtAt_0 : decode cX9_courtAt 0 = .ok (.iload_n 1, 1) := by decide +kernel
theorem dX9_courtAt_1 : decode cX9_courtAt 1 = .ok (.ifCond .lt 17, 3) := by decide +kernel
theorem dX9_courtAt_4 : decode cX9_courtAt 4 = .ok (.iload_n 1, 1) := by decide +kernel
theorem dX9_courtAt_5 : decode cX9_courtAt 5 = .ok (.iconst 5, 1) := by decide +kernel
theorem dX9_courtAt_6 : decode cX9_courtAt 6 = .ok (.if_icmp .ge 12, 3) := by decide +kernel
theorem dX9_courtAt_9 : decode cX9_courtAt 9 = .ok (.aload_n 0, 1) := by decide +kernel
theorem dX9_courtAt_10 : decode cX9_courtAt 10 = .ok (.getfield 54, 3) := by decide +kernel
theorem dX9_courtAt_13 : decode cX9_courtAt 13 = .ok (.iload_n 1, 1) := by decide +kernel
theorem dX9_courtAt_14 : decode cX9_courtAt 14 = .ok (.aaload, 1) := by decide +kernel
theorem dX9_courtAt_15 : decode cX9_courtAt 15 = .ok (.goto 4, 3) := by decide +kernel
theorem dX9_courtAt_18 : decode cX9_courtAt 18 = .ok (.aconst_null, 1) := by decide +kernel
theorem dX9_courtAt_19 : decode cX9_courtAt 19 = .ok (.areturn, 1) := by decide +kernel
set_option maxRecDepth 20000 in
theorem ggX9_maySit_X4_inForce : GoodIn wsX9_maySit wsX4_inForce := goodIn_r _ [10, 11, 12, 13, 14, 42, 43, 44, 45, 46] (by decide +kernel) (by decide +kernel)
set_option maxRecDepth 20000 in
theorem gX9_maySit_X4_inForce : GoodIn wsX9_maySit (wsV RX9 88 RX4 yX4_inForce wsX4_inForce) := goodIn_app (goodIn_of _ (by decide +kernel)) ggX9_maySit_X4_inForce
set_option maxRecDepth 20000 in
theorem ggX9_maySit_X6_answer : GoodIn wsX9_maySit wsX6_answer := goodIn_r _ [19, 20, 45, 46] (by decide +kernel) (by decide +kernel)
set_option maxRecDepth 20000 in
theorem gX9_maySit_X6_answer : GoodIn wsX9_maySit (wsV RX9 92 RX6 yX6_answer wsX6_answer) := goodIn_app (goodIn_of _ (by decide +kernel)) ggX9_maySit_X6_answer
theorem dX9_maySit_0 : decode cX9_maySit 0 = .ok (.aload_n 0, 1) := by decide +kernel
theorem dX9_maySit_1 : decode cX9_maySit 1 = .ok (.getfield 28, 3) := by decide +kernel
theorem dX9_maySit_4 : decode cX9_maySit 4 = .ok (.aload_n 0, 1) := by decide +kernel
theorem dX9_maySit_5 : decode cX9_maySit 5 = .ok (.getfield 67, 3) := by decide +kernel
theorem dX9_maySit_8 : decode cX9_maySit 8 = .ok (.invokevirtual 88, 3) := by decide +kernel
theorem dX9_maySit_11 : decode cX9_maySit 11 = .ok (.iconst 0, 1) := by decide +kernel
theorem dX9_maySit_12 : decode cX9_maySit 12 = .ok (.invokevirtual 92, 3) := by decide +kernel
theorem dX9_maySit_15 : decode cX9_maySit 15 = .ok (.istore_n 2, 1) := by decide +kernel
theorem dX9_maySit_16 : decode cX9_maySit 16 = .ok (.aload_n 1, 1) := by decide +kernel
theorem dX9_maySit_17 : decode cX9_maySit 17 = .ok (.getfield 113, 3) := by decide +kernel
theorem dX9_maySit_20 : decode cX9_maySit 20 = .ok (.ifCond .eq 27, 3) := by decide +kernel
theorem dX9_maySit_23 : decode cX9_maySit 23 = .ok (.aload_n 1, 1) := by decide +kernel
theorem dX9_maySit_24 : decode cX9_maySit 24 = .ok (.getfield 119, 3) := by decide +kernel
theorem dX9_maySit_27 : decode cX9_maySit 27 = .ok (.ifCond .ne 20, 3) := by decide +kernel
theorem dX9_maySit_30 : decode cX9_maySit 30 = .ok (.aload_n 0, 1) := by decide +kernel
theorem dX9_maySit_31 : decode cX9_maySit 31 = .ok (.getfield 67, 3) := by decide +kernel
theorem dX9_maySit_34 : decode cX9_maySit 34 = .ok (.aload_n 1, 1) := by decide +kernel
theorem dX9_maySit_35 : decode cX9_maySit 35 = .ok (.getfield 132, 3) := by decide +kernel
theorem dX9_maySit_38 : decode cX9_maySit 38 = .ok (.isub, 1) := by decide +kernel
theorem dX9_maySit_39 : decode cX9_maySit 39 = .ok (.iload_n 2, 1) := by decide +kernel
theorem dX9_maySit_40 : decode cX9_maySit 40 = .ok (.if_icmp .lt 7, 3) := by decide +kernel
theorem dX9_maySit_43 : decode cX9_maySit 43 = .ok (.iconst 1, 1) := by decide +kernel
theorem dX9_maySit_44 : decode cX9_maySit 44 = .ok (.goto 4, 3) := by decide +kernel
theorem dX9_maySit_47 : decode cX9_maySit 47 = .ok (.iconst 0, 1) := by decide +kernel
theorem dX9_maySit_48 : decode cX9_maySit 48 = .ok (.ireturn, 1) := by decide +kernel
set_option maxRecDepth 20000 in
theorem ggX9_canBeParty_X9_citizenAt : GoodIn wsX9_canBeParty wsX9_citizenAt := goodIn_r _ [5, 6, 7, 15, 16, 17, 18, 19, 20, 21, 22, 23, 24, 25] (by decide +kernel) (by decide +kernel)
set_option maxRecDepth 20000 in
theorem gX9_canBeParty_X9_citizenAt : GoodIn wsX9_canBeParty (wsV RX9 109 RX9 yX9_citizenAt wsX9_citizenAt) := goodIn_app (goodIn_of _ (by decide +kernel)) ggX9_canBeParty_X9_citizenAt
set_option maxRecDepth 20000 in
theorem ggX9_canBeParty_X2_seatOf : GoodIn wsX9_canBeParty wsX2_seatOf := goodIn_r _ [12, 13, 14, 26, 27, 28, 29] (by decide +kernel) (by decide +kernel)
set_option maxRecDepth 20000 in
theorem gX9_canBeParty_X2_seatOf : GoodIn wsX9_canBeParty (wsV RX9 248 RX2 yX2_seatOf wsX2_seatOf) := goodIn_app (goodIn_of _ (by decide +kernel)) ggX9_canBeParty_X2_seatOf
theorem dX9_canBeParty_0 : decode cX9_canBeParty 0 = .ok (.aload_n 0, 1) := by decide +kernel
theorem dX9_canBeParty_1 : decode cX9_canBeParty 1 = .ok (.iload_n 2, 1) := by decide +kernel
theorem dX9_canBeParty_2 : decode cX9_canBeParty 2 = .ok (.invokevirtual 109, 3) := by decide +kernel
theorem dX9_canBeParty_5 : decode cX9_canBeParty 5 = .ok (.ifnull 16, 3) := by decide +kernel
theorem dX9_canBeParty_8 : decode cX9_canBeParty 8 = .ok (.aload_n 1, 1) := by decide +kernel
theorem dX9_canBeParty_9 : decode cX9_canBeParty 9 = .ok (.iload_n 2, 1) := by decide +kernel
theorem dX9_canBeParty_10 : decode cX9_canBeParty 10 = .ok (.invokevirtual 248, 3) := by decide +kernel
theorem dX9_canBeParty_13 : decode cX9_canBeParty 13 = .ok (.iconst (-1), 1) := by decide +kernel
theorem dX9_canBeParty_14 : decode cX9_canBeParty 14 = .ok (.if_icmp .ne 7, 3) := by decide +kernel
theorem dX9_canBeParty_17 : decode cX9_canBeParty 17 = .ok (.iconst 1, 1) := by decide +kernel
theorem dX9_canBeParty_18 : decode cX9_canBeParty 18 = .ok (.goto 4, 3) := by decide +kernel
theorem dX9_canBeParty_21 : decode cX9_canBeParty 21 = .ok (.iconst 0, 1) := by decide +kernel
theorem dX9_canBeParty_22 : decode cX9_canBeParty 22 = .ok (.ireturn, 1) := by decide +kernel
set_option maxRecDepth 20000 in
theorem ggX9_addDebt_X9_courtAt : GoodIn wsX9_addDebt wsX9_courtAt := goodIn_r _ [9, 10, 40, 41, 42, 43, 44, 45, 46, 47, 48, 49, 50] (by decide +kernel) (by decide +kernel)
set_option maxRecDepth 20000 in
theorem gX9_addDebt_X9_courtAt : GoodIn wsX9_addDebt (wsV RX9 154 RX9 yX9_courtAt wsX9_courtAt) := goodIn_app (goodIn_of _ (by decide +kernel)) ggX9_addDebt_X9_courtAt
set_option maxRecDepth 20000 in
theorem ggX9_addDebt_X2_seatOf : GoodIn wsX9_addDebt wsX2_seatOf := goodIn_r _ [15, 16, 17, 36, 37, 38, 39] (by decide +kernel) (by decide +kernel)
set_option maxRecDepth 20000 in
theorem gX9_addDebt_X2_seatOf : GoodIn wsX9_addDebt (wsV RX9 248 RX2 yX2_seatOf wsX2_seatOf) := goodIn_app (goodIn_of _ (by decide +kernel)) ggX9_addDebt_X2_seatOf
set_option maxRecDepth 20000 in
theorem ggX9_addDebt_X7_strikeOut : GoodIn wsX9_addDebt wsX7_strikeOut := goodIn_r _ [22, 23, 24, 25, 51, 52, 53, 54, 55, 56, 57, 58, 59, 60, 61, 62, 63, 64, 65, 66] (by decide +kernel) (by decide +kernel)
set_option maxRecDepth 20000 in
theorem gX9_addDebt_X7_strikeOut : GoodIn wsX9_addDebt (wsV RX9 294 RX7 yX7_strikeOut wsX7_strikeOut) := goodIn_app (goodIn_of _ (by decide +kernel)) ggX9_addDebt_X7_strikeOut
theorem dX9_addDebt_0 : decode cX9_addDebt 0 = .ok (.aload_n 1, 1) := by decide +kernel
theorem dX9_addDebt_1 : decode cX9_addDebt 1 = .ok (.dup, 1) := by decide +kernel
theorem dX9_addDebt_2 : decode cX9_addDebt 2 = .ok (.getfield 119, 3) := by decide +kernel
theorem dX9_addDebt_5 : decode cX9_addDebt 5 = .ok (.iload_n 2, 1) := by decide +kernel
theorem dX9_addDebt_6 : decode cX9_addDebt 6 = .ok (.iadd, 1) := by decide +kernel
theorem dX9_addDebt_7 : decode cX9_addDebt 7 = .ok (.putfield 119, 3) := by decide +kernel
theorem dX9_addDebt_10 : decode cX9_addDebt 10 = .ok (.aload_n 0, 1) := by decide +kernel
theorem dX9_addDebt_11 : decode cX9_addDebt 11 = .ok (.aload_n 1, 1) := by decide +kernel
theorem dX9_addDebt_12 : decode cX9_addDebt 12 = .ok (.getfield 145, 3) := by decide +kernel
theorem dX9_addDebt_15 : decode cX9_addDebt 15 = .ok (.invokevirtual 154, 3) := by decide +kernel
theorem dX9_addDebt_18 : decode cX9_addDebt 18 = .ok (.astore_n 3, 1) := by decide +kernel
theorem dX9_addDebt_19 : decode cX9_addDebt 19 = .ok (.aload_n 3, 1) := by decide +kernel
theorem dX9_addDebt_20 : decode cX9_addDebt 20 = .ok (.ifnull 18, 3) := by decide +kernel
theorem dX9_addDebt_23 : decode cX9_addDebt 23 = .ok (.aload_n 3, 1) := by decide +kernel
theorem dX9_addDebt_24 : decode cX9_addDebt 24 = .ok (.getfield 221, 3) := by decide +kernel
theorem dX9_addDebt_27 : decode cX9_addDebt 27 = .ok (.aload_n 3, 1) := by decide +kernel
theorem dX9_addDebt_28 : decode cX9_addDebt 28 = .ok (.aload_n 1, 1) := by decide +kernel
theorem dX9_addDebt_29 : decode cX9_addDebt 29 = .ok (.getfield 198, 3) := by decide +kernel
theorem dX9_addDebt_32 : decode cX9_addDebt 32 = .ok (.invokevirtual 248, 3) := by decide +kernel
theorem dX9_addDebt_35 : decode cX9_addDebt 35 = .ok (.invokevirtual 294, 3) := by decide +kernel
theorem dX9_addDebt_38 : decode cX9_addDebt 38 = .ok (.return_, 1) := by decide +kernel
set_option maxRecDepth 20000 in
theorem ggX9_payDiscs_X2_sitterAt : GoodIn wsX9_payDiscs wsX2_sitterAt := goodIn_r _ [9, 10, 11, 27, 28, 29, 30] (by decide +kernel) (by decide +kernel)
set_option maxRecDepth 20000 in
theorem gX9_payDiscs_X2_sitterAt : GoodIn wsX9_payDiscs (wsV RX9 213 RX2 yX2_sitterAt wsX2_sitterAt) := goodIn_app (goodIn_of _ (by decide +kernel)) ggX9_payDiscs_X2_sitterAt
set_option maxRecDepth 20000 in
theorem ggX9_payDiscs_X9_citizenAt : GoodIn wsX9_payDiscs wsX9_citizenAt := goodIn_r _ [16, 17, 18, 41, 42, 43, 44, 45, 46, 47, 48, 49, 50, 51] (by decide +kernel) (by decide +kernel)
set_option maxRecDepth 20000 in
theorem gX9_payDiscs_X9_citizenAt : GoodIn wsX9_payDiscs (wsV RX9 109 RX9 yX9_citizenAt wsX9_citizenAt) := goodIn_app (goodIn_of _ (by decide +kernel)) ggX9_payDiscs_X9_citizenAt
set_option maxRecDepth 20000 in
theorem ggX9_payDiscs_X7_counts : GoodIn wsX9_payDiscs wsX7_counts := goodIn_r _ [23, 24, 25, 26, 52, 53, 54, 55, 56, 57, 58, 59, 60, 61, 62, 63, 64, 65, 66, 67] (by decide +kernel) (by decide +kernel)
set_option maxRecDepth 20000 in
theorem gX9_payDiscs_X7_counts : GoodIn wsX9_payDiscs (wsV RX9 297 RX7 yX7_counts wsX7_counts) := goodIn_app (goodIn_of _ (by decide +kernel)) ggX9_payDiscs_X7_counts
theorem dX9_payDiscs_0 : decode cX9_payDiscs 0 = .ok (.iconst 0, 1) := by decide +kernel
theorem dX9_payDiscs_1 : decode cX9_payDiscs 1 = .ok (.istore_n 3, 1) := by decide +kernel
theorem dX9_payDiscs_2 : decode cX9_payDiscs 2 = .ok (.iload_n 3, 1) := by decide +kernel
theorem dX9_payDiscs_3 : decode cX9_payDiscs 3 = .ok (.aload_n 1, 1) := by decide +kernel
theorem dX9_payDiscs_4 : decode cX9_payDiscs 4 = .ok (.getfield 280, 3) := by decide +kernel
theorem dX9_payDiscs_7 : decode cX9_payDiscs 7 = .ok (.if_icmp .ge 57, 3) := by decide +kernel
theorem dX9_payDiscs_10 : decode cX9_payDiscs 10 = .ok (.aload_n 0, 1) := by decide +kernel
theorem dX9_payDiscs_11 : decode cX9_payDiscs 11 = .ok (.aload_n 1, 1) := by decide +kernel
theorem dX9_payDiscs_12 : decode cX9_payDiscs 12 = .ok (.iload_n 3, 1) := by decide +kernel
theorem dX9_payDiscs_13 : decode cX9_payDiscs 13 = .ok (.invokevirtual 213, 3) := by decide +kernel
theorem dX9_payDiscs_16 : decode cX9_payDiscs 16 = .ok (.invokevirtual 109, 3) := by decide +kernel
theorem dX9_payDiscs_19 : decode cX9_payDiscs 19 = .ok (.astore 4, 2) := by decide +kernel
theorem dX9_payDiscs_21 : decode cX9_payDiscs 21 = .ok (.aload 4, 2) := by decide +kernel
theorem dX9_payDiscs_23 : decode cX9_payDiscs 23 = .ok (.ifnull 35, 3) := by decide +kernel
theorem dX9_payDiscs_26 : decode cX9_payDiscs 26 = .ok (.aload_n 1, 1) := by decide +kernel
theorem dX9_payDiscs_27 : decode cX9_payDiscs 27 = .ok (.getfield 221, 3) := by decide +kernel
theorem dX9_payDiscs_30 : decode cX9_payDiscs 30 = .ok (.iload_n 3, 1) := by decide +kernel
theorem dX9_payDiscs_31 : decode cX9_payDiscs 31 = .ok (.invokevirtual 297, 3) := by decide +kernel
theorem dX9_payDiscs_34 : decode cX9_payDiscs 34 = .ok (.ifCond .eq 24, 3) := by decide +kernel
theorem dX9_payDiscs_37 : decode cX9_payDiscs 37 = .ok (.aload 4, 2) := by decide +kernel
theorem dX9_payDiscs_39 : decode cX9_payDiscs 39 = .ok (.dup, 1) := by decide +kernel
theorem dX9_payDiscs_40 : decode cX9_payDiscs 40 = .ok (.getfield 148, 3) := by decide +kernel
theorem dX9_payDiscs_43 : decode cX9_payDiscs 43 = .ok (.iload_n 2, 1) := by decide +kernel
theorem dX9_payDiscs_44 : decode cX9_payDiscs 44 = .ok (.iadd, 1) := by decide +kernel
theorem dX9_payDiscs_45 : decode cX9_payDiscs 45 = .ok (.putfield 148, 3) := by decide +kernel
theorem dX9_payDiscs_48 : decode cX9_payDiscs 48 = .ok (.aload_n 0, 1) := by decide +kernel
theorem dX9_payDiscs_49 : decode cX9_payDiscs 49 = .ok (.dup, 1) := by decide +kernel
theorem dX9_payDiscs_50 : decode cX9_payDiscs 50 = .ok (.getfield 291, 3) := by decide +kernel
theorem dX9_payDiscs_53 : decode cX9_payDiscs 53 = .ok (.iload_n 2, 1) := by decide +kernel
theorem dX9_payDiscs_54 : decode cX9_payDiscs 54 = .ok (.iadd, 1) := by decide +kernel
theorem dX9_payDiscs_55 : decode cX9_payDiscs 55 = .ok (.putfield 291, 3) := by decide +kernel
theorem dX9_payDiscs_58 : decode cX9_payDiscs 58 = .ok (.iinc 3 1, 3) := by decide +kernel
theorem dX9_payDiscs_61 : decode cX9_payDiscs 61 = .ok (.goto (-59), 3) := by decide +kernel
theorem dX9_payDiscs_64 : decode cX9_payDiscs 64 = .ok (.return_, 1) := by decide +kernel
theorem dX9_waysToChoose_0 : decode cX9_waysToChoose 0 = .ok (.iload_n 1, 1) := by decide +kernel
theorem dX9_waysToChoose_1 : decode cX9_waysToChoose 1 = .ok (.ifCond .lt 8, 3) := by decide +kernel
theorem dX9_waysToChoose_4 : decode cX9_waysToChoose 4 = .ok (.iload_n 1, 1) := by decide +kernel
theorem dX9_waysToChoose_5 : decode cX9_waysToChoose 5 = .ok (.iload_n 0, 1) := by decide +kernel
theorem dX9_waysToChoose_6 : decode cX9_waysToChoose 6 = .ok (.if_icmp .le 5, 3) := by decide +kernel
theorem dX9_waysToChoose_9 : decode cX9_waysToChoose 9 = .ok (.lconst 0, 1) := by decide +kernel
theorem dX9_waysToChoose_10 : decode cX9_waysToChoose 10 = .ok (.lreturn, 1) := by decide +kernel
theorem dX9_waysToChoose_11 : decode cX9_waysToChoose 11 = .ok (.lconst 1, 1) := by decide +kernel
theorem dX9_waysToChoose_12 : decode cX9_waysToChoose 12 = .ok (.lstore_n 2, 1) := by decide +kernel
theorem dX9_waysToChoose_13 : decode cX9_waysToChoose 13 = .ok (.iconst 1, 1) := by decide +kernel
theorem dX9_waysToChoose_14 : decode cX9_waysToChoose 14 = .ok (.istore 4, 2) := by decide +kernel
theorem dX9_waysToChoose_16 : decode cX9_waysToChoose 16 = .ok (.iload 4, 2) := by decide +kernel
theorem dX9_waysToChoose_18 : decode cX9_waysToChoose 18 = .ok (.iload_n 1, 1) := by decide +kernel
theorem dX9_waysToChoose_19 : decode cX9_waysToChoose 19 = .ok (.if_icmp .gt 23, 3) := by decide +kernel
theorem dX9_waysToChoose_22 : decode cX9_waysToChoose 22 = .ok (.lload_n 2, 1) := by decide +kernel
theorem dX9_waysToChoose_23 : decode cX9_waysToChoose 23 = .ok (.iload_n 0, 1) := by decide +kernel
theorem dX9_waysToChoose_24 : decode cX9_waysToChoose 24 = .ok (.iload_n 1, 1) := by decide +kernel
theorem dX9_waysToChoose_25 : decode cX9_waysToChoose 25 = .ok (.isub, 1) := by decide +kernel
theorem dX9_waysToChoose_26 : decode cX9_waysToChoose 26 = .ok (.iload 4, 2) := by decide +kernel
theorem dX9_waysToChoose_28 : decode cX9_waysToChoose 28 = .ok (.iadd, 1) := by decide +kernel
theorem dX9_waysToChoose_29 : decode cX9_waysToChoose 29 = .ok (.i2l, 1) := by decide +kernel
theorem dX9_waysToChoose_30 : decode cX9_waysToChoose 30 = .ok (.lmul, 1) := by decide +kernel
theorem dX9_waysToChoose_31 : decode cX9_waysToChoose 31 = .ok (.iload 4, 2) := by decide +kernel
theorem dX9_waysToChoose_33 : decode cX9_waysToChoose 33 = .ok (.i2l, 1) := by decide +kernel
theorem dX9_waysToChoose_34 : decode cX9_waysToChoose 34 = .ok (.ldiv, 1) := by decide +kernel
theorem dX9_waysToChoose_35 : decode cX9_waysToChoose 35 = .ok (.lstore_n 2, 1) := by decide +kernel
theorem dX9_waysToChoose_36 : decode cX9_waysToChoose 36 = .ok (.iinc 4 1, 3) := by decide +kernel
theorem dX9_waysToChoose_39 : decode cX9_waysToChoose 39 = .ok (.goto (-23), 3) := by decide +kernel
theorem dX9_waysToChoose_42 : decode cX9_waysToChoose 42 = .ok (.lload_n 2, 1) := by decide +kernel
theorem dX9_waysToChoose_43 : decode cX9_waysToChoose 43 = .ok (.lreturn, 1) := by decide +kernel
set_option maxRecDepth 20000 in
theorem ggX10_init_X10_shutAll : GoodIn wsX10_init wsX10_shutAll := goodIn_r _ [47, 26, 27, 31, 32, 48, 49, 50, 51, 52, 53, 54, 55, 56, 57, 58, 59, 60, 61, 62, 63, 64, 65, 66, 67, 68, 69, 70, 71, 72, 73, 74, 75, 76, 77, 78, 79, 80, 81, 82, 83, 84, 85, 86, 87, 88, 89, 90, 91, 92, 93, 94, 95, 96, 97] (by decide +kernel) (by decide +kernel)
set_option maxRecDepth 20000 in
theorem gX10_init_X10_shutAll : GoodIn wsX10_init (wsV RX10 119 RX10 yX10_shutAll wsX10_shutAll) := goodIn_app (goodIn_of _ (by decide +kernel)) ggX10_init_X10_shutAll
theorem dX10_init_0 : decode cX10_init 0 = .ok (.aload_n 0, 1) := by decide +kernel
theorem dX10_init_1 : decode cX10_init 1 = .ok (.invokespecial 1, 3) := by decide +kernel
theorem dX10_init_4 : decode cX10_init 4 = .ok (.aload_n 0, 1) := by decide +kernel
theorem dX10_init_5 : decode cX10_init 5 = .ok (.sipush 1000, 3) := by decide +kernel
theorem dX10_init_8 : decode cX10_init 8 = .ok (.newarray .byte, 2) := by decide +kernel
theorem dX10_init_10 : decode cX10_init 10 = .ok (.putfield 7, 3) := by decide +kernel
theorem dX10_init_13 : decode cX10_init 13 = .ok (.aload_n 0, 1) := by decide +kernel
theorem dX10_init_14 : decode cX10_init 14 = .ok (.iconst (-1), 1) := by decide +kernel
theorem dX10_init_15 : decode cX10_init 15 = .ok (.putfield 13, 3) := by decide +kernel
theorem dX10_init_18 : decode cX10_init 18 = .ok (.aload_n 0, 1) := by decide +kernel
theorem dX10_init_19 : decode cX10_init 19 = .ok (.sipush 448, 3) := by decide +kernel
theorem dX10_init_22 : decode cX10_init 22 = .ok (.newarray .int, 2) := by decide +kernel
theorem dX10_init_24 : decode cX10_init 24 = .ok (.putfield 17, 3) := by decide +kernel
theorem dX10_init_27 : decode cX10_init 27 = .ok (.aload_n 0, 1) := by decide +kernel
theorem dX10_init_28 : decode cX10_init 28 = .ok (.bipush 16, 2) := by decide +kernel
theorem dX10_init_30 : decode cX10_init 30 = .ok (.newarray .int, 2) := by decide +kernel
theorem dX10_init_32 : decode cX10_init 32 = .ok (.putfield 21, 3) := by decide +kernel
theorem dX10_init_35 : decode cX10_init 35 = .ok (.aload_n 0, 1) := by decide +kernel
theorem dX10_init_36 : decode cX10_init 36 = .ok (.bipush 10, 2) := by decide +kernel
theorem dX10_init_38 : decode cX10_init 38 = .ok (.newarray .boolean, 2) := by decide +kernel
theorem dX10_init_40 : decode cX10_init 40 = .ok (.putfield 24, 3) := by decide +kernel
theorem dX10_init_43 : decode cX10_init 43 = .ok (.aload_n 0, 1) := by decide +kernel
theorem dX10_init_44 : decode cX10_init 44 = .ok (.sipush 150, 3) := by decide +kernel
theorem dX10_init_47 : decode cX10_init 47 = .ok (.newarray .int, 2) := by decide +kernel
theorem dX10_init_49 : decode cX10_init 49 = .ok (.putfield 28, 3) := by decide +kernel
theorem dX10_init_52 : decode cX10_init 52 = .ok (.aload_n 0, 1) := by decide +kernel
theorem dX10_init_53 : decode cX10_init 53 = .ok (.sipush 150, 3) := by decide +kernel
theorem dX10_init_56 : decode cX10_init 56 = .ok (.newarray .int, 2) := by decide +kernel
theorem dX10_init_58 : decode cX10_init 58 = .ok (.putfield 31, 3) := by decide +kernel
theorem dX10_init_61 : decode cX10_init 61 = .ok (.aload_n 0, 1) := by decide +kernel
theorem dX10_init_62 : decode cX10_init 62 = .ok (.sipush 150, 3) := by decide +kernel
theorem dX10_init_65 : decode cX10_init 65 = .ok (.newarray .int, 2) := by decide +kernel
theorem dX10_init_67 : decode cX10_init 67 = .ok (.putfield 34, 3) := by decide +kernel
theorem dX10_init_70 : decode cX10_init 70 = .ok (.aload_n 0, 1) := by decide +kernel
theorem dX10_init_71 : decode cX10_init 71 = .ok (.sipush 150, 3) := by decide +kernel
theorem dX10_init_74 : decode cX10_init 74 = .ok (.newarray .boolean, 2) := by decide +kernel
theorem dX10_init_76 : decode cX10_init 76 = .ok (.putfield 37, 3) := by decide +kernel
theorem dX10_init_79 : decode cX10_init 79 = .ok (.aload_n 0, 1) := by decide +kernel
theorem dX10_init_80 : decode cX10_init 80 = .ok (.sipush 150, 3) := by decide +kernel
theorem dX10_init_83 : decode cX10_init 83 = .ok (.newarray .int, 2) := by decide +kernel
theorem dX10_init_85 : decode cX10_init 85 = .ok (.putfield 40, 3) := by decide +kernel
theorem dX10_init_88 : decode cX10_init 88 = .ok (.aload_n 0, 1) := by decide +kernel
theorem dX10_init_89 : decode cX10_init 89 = .ok (.sipush 150, 3) := by decide +kernel
theorem dX10_init_92 : decode cX10_init 92 = .ok (.newarray .int, 2) := by decide +kernel
theorem dX10_init_94 : decode cX10_init 94 = .ok (.putfield 43, 3) := by decide +kernel
theorem dX10_init_97 : decode cX10_init 97 = .ok (.aload_n 0, 1) := by decide +kernel
theorem dX10_init_98 : decode cX10_init 98 = .ok (.sipush 150, 3) := by decide +kernel
theorem dX10_init_101 : decode cX10_init 101 = .ok (.newarray .int, 2) := by decide +kernel
theorem dX10_init_103 : decode cX10_init 103 = .ok (.putfield 46, 3) := by decide +kernel
theorem dX10_init_106 : decode cX10_init 106 = .ok (.aload_n 0, 1) := by decide +kernel
theorem dX10_init_107 : decode cX10_init 107 = .ok (.sipush 150, 3) := by decide +kernel
theorem dX10_init_110 : decode cX10_init 110 = .ok (.newarray .boolean, 2) := by decide +kernel
theorem dX10_init_112 : decode cX10_init 112 = .ok (.putfield 49, 3) := by decide +kernel
theorem dX10_init_115 : decode cX10_init 115 = .ok (.aload_n 0, 1) := by decide +kernel
theorem dX10_init_116 : decode cX10_init 116 = .ok (.sipush 150, 3) := by decide +kernel
theorem dX10_init_119 : decode cX10_init 119 = .ok (.newarray .int, 2) := by decide +kernel
theorem dX10_init_121 : decode cX10_init 121 = .ok (.putfield 52, 3) := by decide +kernel
theorem dX10_init_124 : decode cX10_init 124 = .ok (.aload_n 0, 1) := by decide +kernel
theorem dX10_init_125 : decode cX10_init 125 = .ok (.bipush 10, 2) := by decide +kernel
theorem dX10_init_127 : decode cX10_init 127 = .ok (.newarray .boolean, 2) := by decide +kernel
theorem dX10_init_129 : decode cX10_init 129 = .ok (.putfield 55, 3) := by decide +kernel
theorem dX10_init_132 : decode cX10_init 132 = .ok (.aload_n 0, 1) := by decide +kernel
theorem dX10_init_133 : decode cX10_init 133 = .ok (.sipush 150, 3) := by decide +kernel
theorem dX10_init_136 : decode cX10_init 136 = .ok (.newarray .int, 2) := by decide +kernel
theorem dX10_init_138 : decode cX10_init 138 = .ok (.putfield 58, 3) := by decide +kernel
theorem dX10_init_141 : decode cX10_init 141 = .ok (.aload_n 0, 1) := by decide +kernel
theorem dX10_init_142 : decode cX10_init 142 = .ok (.sipush 1024, 3) := by decide +kernel
theorem dX10_init_145 : decode cX10_init 145 = .ok (.newarray .long, 2) := by decide +kernel
theorem dX10_init_147 : decode cX10_init 147 = .ok (.putfield 61, 3) := by decide +kernel
theorem dX10_init_150 : decode cX10_init 150 = .ok (.aload_n 0, 1) := by decide +kernel
theorem dX10_init_151 : decode cX10_init 151 = .ok (.sipush 1891, 3) := by decide +kernel
theorem dX10_init_154 : decode cX10_init 154 = .ok (.newarray .long, 2) := by decide +kernel
theorem dX10_init_156 : decode cX10_init 156 = .ok (.putfield 65, 3) := by decide +kernel
theorem dX10_init_159 : decode cX10_init 159 = .ok (.aload_n 0, 1) := by decide +kernel
theorem dX10_init_160 : decode cX10_init 160 = .ok (.iconst 5, 1) := by decide +kernel
theorem dX10_init_161 : decode cX10_init 161 = .ok (.newarray .int, 2) := by decide +kernel
theorem dX10_init_163 : decode cX10_init 163 = .ok (.putfield 68, 3) := by decide +kernel
theorem dX10_init_166 : decode cX10_init 166 = .ok (.aload_n 0, 1) := by decide +kernel
theorem dX10_init_167 : decode cX10_init 167 = .ok (.iconst 5, 1) := by decide +kernel
theorem dX10_init_168 : decode cX10_init 168 = .ok (.newarray .int, 2) := by decide +kernel
theorem dX10_init_170 : decode cX10_init 170 = .ok (.putfield 71, 3) := by decide +kernel
theorem dX10_init_173 : decode cX10_init 173 = .ok (.aload_n 0, 1) := by decide +kernel
theorem dX10_init_174 : decode cX10_init 174 = .ok (.bipush 125, 2) := by decide +kernel
theorem dX10_init_176 : decode cX10_init 176 = .ok (.newarray .int, 2) := by decide +kernel
theorem dX10_init_178 : decode cX10_init 178 = .ok (.putfield 74, 3) := by decide +kernel
theorem dX10_init_181 : decode cX10_init 181 = .ok (.aload_n 0, 1) := by decide +kernel
theorem dX10_init_182 : decode cX10_init 182 = .ok (.bipush 125, 2) := by decide +kernel
theorem dX10_init_184 : decode cX10_init 184 = .ok (.newarray .int, 2) := by decide +kernel
theorem dX10_init_186 : decode cX10_init 186 = .ok (.putfield 77, 3) := by decide +kernel
theorem dX10_init_189 : decode cX10_init 189 = .ok (.aload_n 0, 1) := by decide +kernel
theorem dX10_init_190 : decode cX10_init 190 = .ok (.bipush 125, 2) := by decide +kernel
theorem dX10_init_192 : decode cX10_init 192 = .ok (.newarray .boolean, 2) := by decide +kernel
theorem dX10_init_194 : decode cX10_init 194 = .ok (.putfield 80, 3) := by decide +kernel
theorem dX10_init_197 : decode cX10_init 197 = .ok (.aload_n 0, 1) := by decide +kernel
theorem dX10_init_198 : decode cX10_init 198 = .ok (.iconst 5, 1) := by decide +kernel
theorem dX10_init_199 : decode cX10_init 199 = .ok (.newarray .boolean, 2) := by decide +kernel
theorem dX10_init_201 : decode cX10_init 201 = .ok (.putfield 83, 3) := by decide +kernel
theorem dX10_init_204 : decode cX10_init 204 = .ok (.aload_n 0, 1) := by decide +kernel
theorem dX10_init_205 : decode cX10_init 205 = .ok (.iconst 5, 1) := by decide +kernel
theorem dX10_init_206 : decode cX10_init 206 = .ok (.newarray .boolean, 2) := by decide +kernel
theorem dX10_init_208 : decode cX10_init 208 = .ok (.putfield 86, 3) := by decide +kernel
theorem dX10_init_211 : decode cX10_init 211 = .ok (.aload_n 0, 1) := by decide +kernel
theorem dX10_init_212 : decode cX10_init 212 = .ok (.iconst 5, 1) := by decide +kernel
theorem dX10_init_213 : decode cX10_init 213 = .ok (.newarray .int, 2) := by decide +kernel
theorem dX10_init_215 : decode cX10_init 215 = .ok (.putfield 89, 3) := by decide +kernel
theorem dX10_init_218 : decode cX10_init 218 = .ok (.aload_n 0, 1) := by decide +kernel
theorem dX10_init_219 : decode cX10_init 219 = .ok (.iconst 5, 1) := by decide +kernel
theorem dX10_init_220 : decode cX10_init 220 = .ok (.newarray .int, 2) := by decide +kernel
theorem dX10_init_222 : decode cX10_init 222 = .ok (.putfield 92, 3) := by decide +kernel
theorem dX10_init_225 : decode cX10_init 225 = .ok (.aload_n 0, 1) := by decide +kernel
theorem dX10_init_226 : decode cX10_init 226 = .ok (.iconst 5, 1) := by decide +kernel
theorem dX10_init_227 : decode cX10_init 227 = .ok (.newarray .int, 2) := by decide +kernel
theorem dX10_init_229 : decode cX10_init 229 = .ok (.putfield 95, 3) := by decide +kernel
theorem dX10_init_232 : decode cX10_init 232 = .ok (.aload_n 0, 1) := by decide +kernel
theorem dX10_init_233 : decode cX10_init 233 = .ok (.iconst 5, 1) := by decide +kernel
theorem dX10_init_234 : decode cX10_init 234 = .ok (.newarray .int, 2) := by decide +kernel
theorem dX10_init_236 : decode cX10_init 236 = .ok (.putfield 98, 3) := by decide +kernel
theorem dX10_init_239 : decode cX10_init 239 = .ok (.aload_n 0, 1) := by decide +kernel
theorem dX10_init_240 : decode cX10_init 240 = .ok (.bipush 10, 2) := by decide +kernel
theorem dX10_init_242 : decode cX10_init 242 = .ok (.newarray .int, 2) := by decide +kernel
theorem dX10_init_244 : decode cX10_init 244 = .ok (.putfield 101, 3) := by decide +kernel
theorem dX10_init_247 : decode cX10_init 247 = .ok (.aload_n 0, 1) := by decide +kernel
theorem dX10_init_248 : decode cX10_init 248 = .ok (.iconst 5, 1) := by decide +kernel
theorem dX10_init_249 : decode cX10_init 249 = .ok (.newarray .boolean, 2) := by decide +kernel
theorem dX10_init_251 : decode cX10_init 251 = .ok (.putfield 104, 3) := by decide +kernel
theorem dX10_init_254 : decode cX10_init 254 = .ok (.aload_n 0, 1) := by decide +kernel
theorem dX10_init_255 : decode cX10_init 255 = .ok (.iconst 5, 1) := by decide +kernel
theorem dX10_init_256 : decode cX10_init 256 = .ok (.newarray .boolean, 2) := by decide +kernel
theorem dX10_init_258 : decode cX10_init 258 = .ok (.putfield 107, 3) := by decide +kernel
theorem dX10_init_261 : decode cX10_init 261 = .ok (.aload_n 0, 1) := by decide +kernel
theorem dX10_init_262 : decode cX10_init 262 = .ok (.iconst 5, 1) := by decide +kernel
theorem dX10_init_263 : decode cX10_init 263 = .ok (.newarray .int, 2) := by decide +kernel
theorem dX10_init_265 : decode cX10_init 265 = .ok (.putfield 110, 3) := by decide +kernel
theorem dX10_init_268 : decode cX10_init 268 = .ok (.aload_n 0, 1) := by decide +kernel
theorem dX10_init_269 : decode cX10_init 269 = .ok (.iconst 5, 1) := by decide +kernel
theorem dX10_init_270 : decode cX10_init 270 = .ok (.newarray .int, 2) := by decide +kernel
theorem dX10_init_272 : decode cX10_init 272 = .ok (.putfield 113, 3) := by decide +kernel
theorem dX10_init_275 : decode cX10_init 275 = .ok (.aload_n 0, 1) := by decide +kernel
theorem dX10_init_276 : decode cX10_init 276 = .ok (.iconst 5, 1) := by decide +kernel
theorem dX10_init_277 : decode cX10_init 277 = .ok (.newarray .int, 2) := by decide +kernel
theorem dX10_init_279 : decode cX10_init 279 = .ok (.putfield 116, 3) := by decide +kernel
theorem dX10_init_282 : decode cX10_init 282 = .ok (.iconst 0, 1) := by decide +kernel
theorem dX10_init_283 : decode cX10_init 283 = .ok (.istore_n 1, 1) := by decide +kernel
theorem dX10_init_284 : decode cX10_init 284 = .ok (.iload_n 1, 1) := by decide +kernel
theorem dX10_init_285 : decode cX10_init 285 = .ok (.bipush 32, 2) := by decide +kernel
theorem dX10_init_287 : decode cX10_init 287 = .ok (.if_icmp .ge 81, 3) := by decide +kernel
theorem dX10_init_290 : decode cX10_init 290 = .ok (.aload_n 0, 1) := by decide +kernel
theorem dX10_init_291 : decode cX10_init 291 = .ok (.getfield 61, 3) := by decide +kernel
theorem dX10_init_294 : decode cX10_init 294 = .ok (.bipush 32, 2) := by decide +kernel
theorem dX10_init_296 : decode cX10_init 296 = .ok (.iload_n 1, 1) := by decide +kernel
theorem dX10_init_297 : decode cX10_init 297 = .ok (.imul, 1) := by decide +kernel
theorem dX10_init_298 : decode cX10_init 298 = .ok (.lconst 1, 1) := by decide +kernel
theorem dX10_init_299 : decode cX10_init 299 = .ok (.lastore, 1) := by decide +kernel
theorem dX10_init_300 : decode cX10_init 300 = .ok (.iconst 1, 1) := by decide +kernel
theorem dX10_init_301 : decode cX10_init 301 = .ok (.istore_n 2, 1) := by decide +kernel
theorem dX10_init_302 : decode cX10_init 302 = .ok (.iload_n 2, 1) := by decide +kernel
theorem dX10_init_303 : decode cX10_init 303 = .ok (.iload_n 1, 1) := by decide +kernel
theorem dX10_init_304 : decode cX10_init 304 = .ok (.if_icmp .gt 58, 3) := by decide +kernel
theorem dX10_init_307 : decode cX10_init 307 = .ok (.aload_n 0, 1) := by decide +kernel
theorem dX10_init_308 : decode cX10_init 308 = .ok (.getfield 61, 3) := by decide +kernel
theorem dX10_init_311 : decode cX10_init 311 = .ok (.bipush 32, 2) := by decide +kernel
theorem dX10_init_313 : decode cX10_init 313 = .ok (.iload_n 1, 1) := by decide +kernel
theorem dX10_init_314 : decode cX10_init 314 = .ok (.imul, 1) := by decide +kernel
theorem dX10_init_315 : decode cX10_init 315 = .ok (.iload_n 2, 1) := by decide +kernel
theorem dX10_init_316 : decode cX10_init 316 = .ok (.iadd, 1) := by decide +kernel
theorem dX10_init_317 : decode cX10_init 317 = .ok (.aload_n 0, 1) := by decide +kernel
theorem dX10_init_318 : decode cX10_init 318 = .ok (.getfield 61, 3) := by decide +kernel
theorem dX10_init_321 : decode cX10_init 321 = .ok (.bipush 32, 2) := by decide +kernel
theorem dX10_init_323 : decode cX10_init 323 = .ok (.iload_n 1, 1) := by decide +kernel
theorem dX10_init_324 : decode cX10_init 324 = .ok (.iconst 1, 1) := by decide +kernel
theorem dX10_init_325 : decode cX10_init 325 = .ok (.isub, 1) := by decide +kernel
theorem dX10_init_326 : decode cX10_init 326 = .ok (.imul, 1) := by decide +kernel
theorem dX10_init_327 : decode cX10_init 327 = .ok (.iload_n 2, 1) := by decide +kernel
theorem dX10_init_328 : decode cX10_init 328 = .ok (.iadd, 1) := by decide +kernel
theorem dX10_init_329 : decode cX10_init 329 = .ok (.iconst 1, 1) := by decide +kernel
theorem dX10_init_330 : decode cX10_init 330 = .ok (.isub, 1) := by decide +kernel
theorem dX10_init_331 : decode cX10_init 331 = .ok (.laload, 1) := by decide +kernel
theorem dX10_init_332 : decode cX10_init 332 = .ok (.iload_n 2, 1) := by decide +kernel
theorem dX10_init_333 : decode cX10_init 333 = .ok (.iload_n 1, 1) := by decide +kernel
theorem dX10_init_334 : decode cX10_init 334 = .ok (.if_icmp .ge 19, 3) := by decide +kernel
theorem dX10_init_337 : decode cX10_init 337 = .ok (.aload_n 0, 1) := by decide +kernel
theorem dX10_init_338 : decode cX10_init 338 = .ok (.getfield 61, 3) := by decide +kernel
theorem dX10_init_341 : decode cX10_init 341 = .ok (.bipush 32, 2) := by decide +kernel
theorem dX10_init_343 : decode cX10_init 343 = .ok (.iload_n 1, 1) := by decide +kernel
theorem dX10_init_344 : decode cX10_init 344 = .ok (.iconst 1, 1) := by decide +kernel
theorem dX10_init_345 : decode cX10_init 345 = .ok (.isub, 1) := by decide +kernel
theorem dX10_init_346 : decode cX10_init 346 = .ok (.imul, 1) := by decide +kernel
theorem dX10_init_347 : decode cX10_init 347 = .ok (.iload_n 2, 1) := by decide +kernel
theorem dX10_init_348 : decode cX10_init 348 = .ok (.iadd, 1) := by decide +kernel
theorem dX10_init_349 : decode cX10_init 349 = .ok (.laload, 1) := by decide +kernel
theorem dX10_init_350 : decode cX10_init 350 = .ok (.goto 4, 3) := by decide +kernel
theorem dX10_init_353 : decode cX10_init 353 = .ok (.lconst 0, 1) := by decide +kernel
theorem dX10_init_354 : decode cX10_init 354 = .ok (.ladd, 1) := by decide +kernel
theorem dX10_init_355 : decode cX10_init 355 = .ok (.lastore, 1) := by decide +kernel
theorem dX10_init_356 : decode cX10_init 356 = .ok (.iinc 2 1, 3) := by decide +kernel
theorem dX10_init_359 : decode cX10_init 359 = .ok (.goto (-57), 3) := by decide +kernel
theorem dX10_init_362 : decode cX10_init 362 = .ok (.iinc 1 1, 3) := by decide +kernel
theorem dX10_init_365 : decode cX10_init 365 = .ok (.goto (-81), 3) := by decide +kernel
theorem dX10_init_368 : decode cX10_init 368 = .ok (.aload_n 0, 1) := by decide +kernel
theorem dX10_init_369 : decode cX10_init 369 = .ok (.invokevirtual 119, 3) := by decide +kernel
theorem dX10_init_372 : decode cX10_init 372 = .ok (.return_, 1) := by decide +kernel
theorem dX10_in_0 : decode cX10_in 0 = .ok (.lload_n 0, 1) := by decide +kernel
theorem dX10_in_1 : decode cX10_in 1 = .ok (.lload_n 2, 1) := by decide +kernel
theorem dX10_in_2 : decode cX10_in 2 = .ok (.lcmp, 1) := by decide +kernel
theorem dX10_in_3 : decode cX10_in 3 = .ok (.ifCond .lt 14, 3) := by decide +kernel
theorem dX10_in_6 : decode cX10_in 6 = .ok (.lload_n 0, 1) := by decide +kernel
theorem dX10_in_7 : decode cX10_in 7 = .ok (.lload 4, 2) := by decide +kernel
theorem dX10_in_9 : decode cX10_in 9 = .ok (.lcmp, 1) := by decide +kernel
theorem dX10_in_10 : decode cX10_in 10 = .ok (.ifCond .gt 7, 3) := by decide +kernel
theorem dX10_in_13 : decode cX10_in 13 = .ok (.iconst 1, 1) := by decide +kernel
theorem dX10_in_14 : decode cX10_in 14 = .ok (.goto 4, 3) := by decide +kernel
theorem dX10_in_17 : decode cX10_in 17 = .ok (.iconst 0, 1) := by decide +kernel
theorem dX10_in_18 : decode cX10_in 18 = .ok (.ireturn, 1) := by decide +kernel
theorem dX10_feed_0 : decode cX10_feed 0 = .ok (.aload_n 0, 1) := by decide +kernel
theorem dX10_feed_1 : decode cX10_feed 1 = .ok (.getfield 122, 3) := by decide +kernel
theorem dX10_feed_4 : decode cX10_feed 4 = .ok (.bipush 20, 2) := by decide +kernel
theorem dX10_feed_6 : decode cX10_feed 6 = .ok (.iadd, 1) := by decide +kernel
theorem dX10_feed_7 : decode cX10_feed 7 = .ok (.sipush 1000, 3) := by decide +kernel
theorem dX10_feed_10 : decode cX10_feed 10 = .ok (.if_icmp .le 6, 3) := by decide +kernel
theorem dX10_feed_13 : decode cX10_feed 13 = .ok (.bipush (-3), 2) := by decide +kernel
theorem dX10_feed_15 : decode cX10_feed 15 = .ok (.ireturn, 1) := by decide +kernel
theorem dX10_feed_16 : decode cX10_feed 16 = .ok (.iconst 0, 1) := by decide +kernel
theorem dX10_feed_17 : decode cX10_feed 17 = .ok (.istore 6, 2) := by decide +kernel
theorem dX10_feed_19 : decode cX10_feed 19 = .ok (.iload 6, 2) := by decide +kernel
theorem dX10_feed_21 : decode cX10_feed 21 = .ok (.iconst 5, 1) := by decide +kernel
theorem dX10_feed_22 : decode cX10_feed 22 = .ok (.if_icmp .ge 93, 3) := by decide +kernel
theorem dX10_feed_25 : decode cX10_feed 25 = .ok (.iload 6, 2) := by decide +kernel
theorem dX10_feed_27 : decode cX10_feed 27 = .ok (.ifCond .ne 7, 3) := by decide +kernel
theorem dX10_feed_30 : decode cX10_feed 30 = .ok (.iload_n 1, 1) := by decide +kernel
theorem dX10_feed_31 : decode cX10_feed 31 = .ok (.goto 36, 3) := by decide +kernel
theorem dX10_feed_34 : decode cX10_feed 34 = .ok (.iload 6, 2) := by decide +kernel
theorem dX10_feed_36 : decode cX10_feed 36 = .ok (.iconst 1, 1) := by decide +kernel
theorem dX10_feed_37 : decode cX10_feed 37 = .ok (.if_icmp .ne 7, 3) := by decide +kernel
theorem dX10_feed_40 : decode cX10_feed 40 = .ok (.iload_n 2, 1) := by decide +kernel
theorem dX10_feed_41 : decode cX10_feed 41 = .ok (.goto 26, 3) := by decide +kernel
theorem dX10_feed_44 : decode cX10_feed 44 = .ok (.iload 6, 2) := by decide +kernel
theorem dX10_feed_46 : decode cX10_feed 46 = .ok (.iconst 2, 1) := by decide +kernel
theorem dX10_feed_47 : decode cX10_feed 47 = .ok (.if_icmp .ne 7, 3) := by decide +kernel
theorem dX10_feed_50 : decode cX10_feed 50 = .ok (.iload_n 3, 1) := by decide +kernel
theorem dX10_feed_51 : decode cX10_feed 51 = .ok (.goto 16, 3) := by decide +kernel
theorem dX10_feed_54 : decode cX10_feed 54 = .ok (.iload 6, 2) := by decide +kernel
theorem dX10_feed_56 : decode cX10_feed 56 = .ok (.iconst 3, 1) := by decide +kernel
theorem dX10_feed_57 : decode cX10_feed 57 = .ok (.if_icmp .ne 8, 3) := by decide +kernel
theorem dX10_feed_60 : decode cX10_feed 60 = .ok (.iload 4, 2) := by decide +kernel
theorem dX10_feed_62 : decode cX10_feed 62 = .ok (.goto 5, 3) := by decide +kernel
theorem dX10_feed_65 : decode cX10_feed 65 = .ok (.iload 5, 2) := by decide +kernel
theorem dX10_feed_67 : decode cX10_feed 67 = .ok (.istore 7, 2) := by decide +kernel
theorem dX10_feed_69 : decode cX10_feed 69 = .ok (.bipush 24, 2) := by decide +kernel
theorem dX10_feed_71 : decode cX10_feed 71 = .ok (.istore 8, 2) := by decide +kernel
theorem dX10_feed_73 : decode cX10_feed 73 = .ok (.iload 8, 2) := by decide +kernel
theorem dX10_feed_75 : decode cX10_feed 75 = .ok (.ifCond .lt 34, 3) := by decide +kernel
theorem dX10_feed_78 : decode cX10_feed 78 = .ok (.aload_n 0, 1) := by decide +kernel
theorem dX10_feed_79 : decode cX10_feed 79 = .ok (.getfield 7, 3) := by decide +kernel
theorem dX10_feed_82 : decode cX10_feed 82 = .ok (.aload_n 0, 1) := by decide +kernel
theorem dX10_feed_83 : decode cX10_feed 83 = .ok (.getfield 122, 3) := by decide +kernel
theorem dX10_feed_86 : decode cX10_feed 86 = .ok (.iload 7, 2) := by decide +kernel
theorem dX10_feed_88 : decode cX10_feed 88 = .ok (.iload 8, 2) := by decide +kernel
theorem dX10_feed_90 : decode cX10_feed 90 = .ok (.ishr, 1) := by decide +kernel
theorem dX10_feed_91 : decode cX10_feed 91 = .ok (.i2b, 1) := by decide +kernel
theorem dX10_feed_92 : decode cX10_feed 92 = .ok (.bastore, 1) := by decide +kernel
theorem dX10_feed_93 : decode cX10_feed 93 = .ok (.aload_n 0, 1) := by decide +kernel
theorem dX10_feed_94 : decode cX10_feed 94 = .ok (.dup, 1) := by decide +kernel
theorem dX10_feed_95 : decode cX10_feed 95 = .ok (.getfield 122, 3) := by decide +kernel
theorem dX10_feed_98 : decode cX10_feed 98 = .ok (.iconst 1, 1) := by decide +kernel
theorem dX10_feed_99 : decode cX10_feed 99 = .ok (.iadd, 1) := by decide +kernel
theorem dX10_feed_100 : decode cX10_feed 100 = .ok (.putfield 122, 3) := by decide +kernel
theorem dX10_feed_103 : decode cX10_feed 103 = .ok (.iinc 8 (-8), 3) := by decide +kernel
theorem dX10_feed_106 : decode cX10_feed 106 = .ok (.goto (-33), 3) := by decide +kernel
theorem dX10_feed_109 : decode cX10_feed 109 = .ok (.iinc 6 1, 3) := by decide +kernel
theorem dX10_feed_112 : decode cX10_feed 112 = .ok (.goto (-93), 3) := by decide +kernel
theorem dX10_feed_115 : decode cX10_feed 115 = .ok (.aload_n 0, 1) := by decide +kernel
theorem dX10_feed_116 : decode cX10_feed 116 = .ok (.getfield 122, 3) := by decide +kernel
theorem dX10_feed_119 : decode cX10_feed 119 = .ok (.ireturn, 1) := by decide +kernel
theorem dX10_end_0 : decode cX10_end 0 = .ok (.iload_n 1, 1) := by decide +kernel
theorem dX10_end_1 : decode cX10_end 1 = .ok (.ifCond .lt 11, 3) := by decide +kernel
theorem dX10_end_4 : decode cX10_end 4 = .ok (.iload_n 1, 1) := by decide +kernel
theorem dX10_end_5 : decode cX10_end 5 = .ok (.aload_n 0, 1) := by decide +kernel
theorem dX10_end_6 : decode cX10_end 6 = .ok (.getfield 122, 3) := by decide +kernel
theorem dX10_end_9 : decode cX10_end 9 = .ok (.if_icmp .le 5, 3) := by decide +kernel
theorem dX10_end_12 : decode cX10_end 12 = .ok (.iconst (-1), 1) := by decide +kernel
theorem dX10_end_13 : decode cX10_end 13 = .ok (.ireturn, 1) := by decide +kernel
theorem dX10_end_14 : decode cX10_end 14 = .ok (.aload_n 0, 1) := by decide +kernel
theorem dX10_end_15 : decode cX10_end 15 = .ok (.iload_n 1, 1) := by decide +kernel
theorem dX10_end_16 : decode cX10_end 16 = .ok (.putfield 122, 3) := by decide +kernel
theorem dX10_end_19 : decode cX10_end 19 = .ok (.iload_n 1, 1) := by decide +kernel
theorem dX10_end_20 : decode cX10_end 20 = .ok (.ireturn, 1) := by decide +kernel
theorem dX10_see_0 : decode cX10_see 0 = .ok (.iload_n 1, 1) := by decide +kernel
theorem dX10_see_1 : decode cX10_see 1 = .ok (.aload_n 0, 1) := by decide +kernel
theorem dX10_see_2 : decode cX10_see 2 = .ok (.getfield 125, 3) := by decide +kernel
theorem dX10_see_5 : decode cX10_see 5 = .ok (.if_icmp .ge 16, 3) := by decide +kernel
theorem dX10_see_8 : decode cX10_see 8 = .ok (.aload_n 0, 1) := by decide +kernel
theorem dX10_see_9 : decode cX10_see 9 = .ok (.getfield 7, 3) := by decide +kernel
theorem dX10_see_12 : decode cX10_see 12 = .ok (.iload_n 1, 1) := by decide +kernel
theorem dX10_see_13 : decode cX10_see 13 = .ok (.baload, 1) := by decide +kernel
theorem dX10_see_14 : decode cX10_see 14 = .ok (.sipush 255, 3) := by decide +kernel
theorem dX10_see_17 : decode cX10_see 17 = .ok (.iand, 1) := by decide +kernel
theorem dX10_see_18 : decode cX10_see 18 = .ok (.goto 4, 3) := by decide +kernel
theorem dX10_see_21 : decode cX10_see 21 = .ok (.iconst (-1), 1) := by decide +kernel
theorem dX10_see_22 : decode cX10_see 22 = .ok (.ireturn, 1) := by decide +kernel
theorem dX10_isSmall_0 : decode cX10_isSmall 0 = .ok (.iload_n 0, 1) := by decide +kernel
theorem dX10_isSmall_1 : decode cX10_isSmall 1 = .ok (.bipush 97, 2) := by decide +kernel
theorem dX10_isSmall_3 : decode cX10_isSmall 3 = .ok (.if_icmp .lt 13, 3) := by decide +kernel
theorem dX10_isSmall_6 : decode cX10_isSmall 6 = .ok (.iload_n 0, 1) := by decide +kernel
theorem dX10_isSmall_7 : decode cX10_isSmall 7 = .ok (.bipush 122, 2) := by decide +kernel
theorem dX10_isSmall_9 : decode cX10_isSmall 9 = .ok (.if_icmp .gt 7, 3) := by decide +kernel
theorem dX10_isSmall_12 : decode cX10_isSmall 12 = .ok (.iconst 1, 1) := by decide +kernel
theorem dX10_isSmall_13 : decode cX10_isSmall 13 = .ok (.goto 4, 3) := by decide +kernel
theorem dX10_isSmall_16 : decode cX10_isSmall 16 = .ok (.iconst 0, 1) := by decide +kernel
theorem dX10_isSmall_17 : decode cX10_isSmall 17 = .ok (.ireturn, 1) := by decide +kernel
theorem dX10_isDigit_0 : decode cX10_isDigit 0 = .ok (.iload_n 0, 1) := by decide +kernel
theorem dX10_isDigit_1 : decode cX10_isDigit 1 = .ok (.bipush 48, 2) := by decide +kernel
theorem dX10_isDigit_3 : decode cX10_isDigit 3 = .ok (.if_icmp .lt 13, 3) := by decide +kernel
theorem dX10_isDigit_6 : decode cX10_isDigit 6 = .ok (.iload_n 0, 1) := by decide +kernel
theorem dX10_isDigit_7 : decode cX10_isDigit 7 = .ok (.bipush 57, 2) := by decide +kernel
theorem dX10_isDigit_9 : decode cX10_isDigit 9 = .ok (.if_icmp .gt 7, 3) := by decide +kernel
theorem dX10_isDigit_12 : decode cX10_isDigit 12 = .ok (.iconst 1, 1) := by decide +kernel
theorem dX10_isDigit_13 : decode cX10_isDigit 13 = .ok (.goto 4, 3) := by decide +kernel
theorem dX10_isDigit_16 : decode cX10_isDigit 16 = .ok (.iconst 0, 1) := by decide +kernel
theorem dX10_isDigit_17 : decode cX10_isDigit 17 = .ok (.ireturn, 1) := by decide +kernel
set_option maxRecDepth 20000 in
theorem ggX10_keyAt_J0_length_8abf5 : GoodIn wsX10_keyAt wsJ0_length_8abf5 := goodIn_r _ [5, 6, 7, 8, 9, 4, 10, 11, 12] (by decide +kernel) (by decide +kernel)
set_option maxRecDepth 20000 in
theorem gX10_keyAt_J0_length_8abf5 : GoodIn wsX10_keyAt (wsV RX10 130 RJ0 yJ0_length_8abf5 wsJ0_length_8abf5) := goodIn_app (goodIn_of _ (by decide +kernel)) ggX10_keyAt_J0_length_8abf5
set_option maxRecDepth 20000 in
theorem ggX10_keyAt_J0_charAt_5068e : GoodIn wsX10_keyAt wsJ0_charAt_5068e := goodIn_r _ [16, 6, 17, 18, 19, 4, 20, 11, 12, 21, 22, 23, 24, 25, 26, 27, 28, 29, 30, 31, 32, 33, 34, 35, 36, 37, 38, 39, 40, 41, 42, 43, 44, 45, 46, 47, 48, 49] (by decide +kernel) (by decide +kernel)
set_option maxRecDepth 20000 in
theorem gX10_keyAt_J0_charAt_5068e : GoodIn wsX10_keyAt (wsV RX10 136 RJ0 yJ0_charAt_5068e wsJ0_charAt_5068e) := goodIn_app (goodIn_of _ (by decide +kernel)) ggX10_keyAt_J0_charAt_5068e
set_option maxRecDepth 20000 in
theorem ggX10_keyAt_X10_see : GoodIn wsX10_keyAt wsX10_see := goodIn_r _ [54, 55, 56, 57, 58, 59, 60, 61, 62, 63, 64, 65, 66, 67, 68, 69, 70, 71, 72, 73, 74, 75, 76, 77, 78, 79, 80, 81, 82, 83, 84, 85, 86, 87, 88, 89, 90, 91, 92, 93, 94, 95, 96, 97, 98, 99, 100, 101, 102, 103, 104, 105, 106] (by decide +kernel) (by decide +kernel)
set_option maxRecDepth 20000 in
theorem gX10_keyAt_X10_see : GoodIn wsX10_keyAt (wsV RX10 140 RX10 yX10_see wsX10_see) := goodIn_app (goodIn_of _ (by decide +kernel)) ggX10_keyAt_X10_see
theorem dX10_keyAt_0 : decode cX10_keyAt 0 = .ok (.iconst 0, 1) := by decide +kernel
theorem dX10_keyAt_1 : decode cX10_keyAt 1 = .ok (.istore_n 3, 1) := by decide +kernel
theorem dX10_keyAt_2 : decode cX10_keyAt 2 = .ok (.iconst 0, 1) := by decide +kernel
theorem dX10_keyAt_3 : decode cX10_keyAt 3 = .ok (.istore 4, 2) := by decide +kernel
theorem dX10_keyAt_5 : decode cX10_keyAt 5 = .ok (.iconst 0, 1) := by decide +kernel
theorem dX10_keyAt_6 : decode cX10_keyAt 6 = .ok (.istore 5, 2) := by decide +kernel
theorem dX10_keyAt_8 : decode cX10_keyAt 8 = .ok (.iload 5, 2) := by decide +kernel
theorem dX10_keyAt_10 : decode cX10_keyAt 10 = .ok (.ldc 128, 2) := by decide +kernel
theorem dX10_keyAt_12 : decode cX10_keyAt 12 = .ok (.invokevirtual 130, 3) := by decide +kernel
theorem dX10_keyAt_15 : decode cX10_keyAt 15 = .ok (.if_icmp .ge 104, 3) := by decide +kernel
theorem dX10_keyAt_18 : decode cX10_keyAt 18 = .ok (.ldc 128, 2) := by decide +kernel
theorem dX10_keyAt_20 : decode cX10_keyAt 20 = .ok (.iload 5, 2) := by decide +kernel
theorem dX10_keyAt_22 : decode cX10_keyAt 22 = .ok (.invokevirtual 136, 3) := by decide +kernel
theorem dX10_keyAt_25 : decode cX10_keyAt 25 = .ok (.bipush 32, 2) := by decide +kernel
theorem dX10_keyAt_27 : decode cX10_keyAt 27 = .ok (.if_icmp .eq 6, 3) := by decide +kernel
theorem dX10_keyAt_30 : decode cX10_keyAt 30 = .ok (.goto 83, 3) := by decide +kernel
theorem dX10_keyAt_33 : decode cX10_keyAt 33 = .ok (.iload 5, 2) := by decide +kernel
theorem dX10_keyAt_35 : decode cX10_keyAt 35 = .ok (.iload 4, 2) := by decide +kernel
theorem dX10_keyAt_37 : decode cX10_keyAt 37 = .ok (.isub, 1) := by decide +kernel
theorem dX10_keyAt_38 : decode cX10_keyAt 38 = .ok (.iload_n 2, 1) := by decide +kernel
theorem dX10_keyAt_39 : decode cX10_keyAt 39 = .ok (.if_icmp .ne 7, 3) := by decide +kernel
theorem dX10_keyAt_42 : decode cX10_keyAt 42 = .ok (.iconst 1, 1) := by decide +kernel
